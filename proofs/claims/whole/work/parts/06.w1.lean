def wp_J0_coder_7d493 (k : Nat) (K : Int32 → Prop) : Prop :=
  K 0
abbrev rmJ0_coder_7d493 : Room := { frames := 0, cells := 0, slots := 0, locals := 0 }
set_option maxHeartbeats 4000000 in
set_option maxRecDepth 100000 in
theorem c_J0_coder_7d493 (l : Launch) (dC : Nat → ClassId) (dI : Nat → Nat → Nat) (kI kZ : ClassId) (sz : Nat) (A0 : Nat → Prop) (adK adV : Nat → Nat) (hz : ∀ q, sz ≤ q → A0 q) (k : Nat) (hk : k < 2)  (K : Int32 → Prop) (h : wp_J0_coder_7d493 k K) : Met l yJ0_coder_7d493 wsJ0_coder_7d493 rmJ0_coder_7d493 (va_Pc [.ref (adK k)] (zPG (dC, dI) (zT kI kZ) sz A0 adK adV [])) (va_Qi (fun (r : Int32) (u : Unit) => K r) (fun (u : Unit) => zB (dC, dI) (zT kI kZ) (va_A [] sz) []) (va_A [] sz)) 0 0 (va_A [] sz) := by
  refine zz_ofbG (cc := cJ0_coder_7d493) (maxL := 1) (by decide) rfl (Nat.le_of_ble_eq_true rfl) hz ?_
  intro p e s m args below meth c A Q ls hx hb hml hown hts hK hA hG hAA hR hP hD hS hl
  have hE := hG.2.1.narrow hAA
  have hown : s.vm.findClass RJ0 = some m.cls := hown
  have hl : lv_has ls 1 [(0, .ref (adK k))] := hl
  unfold wp_J0_coder_7d493 at h
  obtain ⟨H, eH⟩ : ∃ H, H = s.heap := ⟨_, rfl⟩
  obtain ⟨locs, eL⟩ : ∃ L : List Loc, L = [] := ⟨_, rfl⟩
  rw [← eL]
  have hS : va_S A s.heap s.heap locs := by rw [eL]; exact hS
  suffices hgo : ∀ H : Heap, va_P (dC, dI) vwCl [] H → va_S A s.heap H locs → W p l e rmJ0_coder_7d493 s m args below meth c H locs 0 0 Q (F0 m 0 ls []) from hgo _ hP hS
  clear hP hS eH H eL
  intro H hP hS
  refine va_gets (C := "java/lang/String") (n := "COMPACT_STRINGS") (d := "Z") (v := .int 1) hx hb (hG.1.narrow hAA) hS hown (hts (.fieldLink RJ0 38 "java/lang/String" "COMPACT_STRINGS" "Z") (List.mem_cons_of_mem _ (List.mem_of_getElem? (i := 0) rfl))) (fun _ h9 => h9) dJ0_coder_7d493_0 ?_
  refine lv_if_eq (tgt := 13) hx hb dJ0_coder_7d493_3 (by decide) (fun c_ => absurd c_ (by decide)) (fun c_ => ?_)
  refine lv_aload_n hx hb dJ0_coder_7d493_6 rfl (lv_at hl 0 rfl) ?_
  refine vk_getf hx hb (hE.1 k hk).2.1 hS hown (hts (.fieldLink RJ0 15 "java/lang/String" "coder" "B") (List.mem_cons_of_mem _ (List.mem_of_getElem? (i := 1) rfl))) (fun _ h9 => h9) dJ0_coder_7d493_7 ?_
  refine lv_goto (tgt := 14) hx hb dJ0_coder_7d493_10 (by decide) ?_
  exact hR 0 () H locs rfl h hP hD hS _ ls dJ0_coder_7d493_14
def wp_J0_isLatin1_aae02 (k : Nat) (K : Int32 → Prop) : Prop :=
  K 1
abbrev rmJ0_isLatin1_aae02 : Room := { frames := 0, cells := 0, slots := 0, locals := 0 }
set_option maxHeartbeats 4000000 in
set_option maxRecDepth 100000 in
theorem c_J0_isLatin1_aae02 (l : Launch) (dC : Nat → ClassId) (dI : Nat → Nat → Nat) (kI kZ : ClassId) (sz : Nat) (A0 : Nat → Prop) (adK adV : Nat → Nat) (hz : ∀ q, sz ≤ q → A0 q) (k : Nat) (hk : k < 2)  (K : Int32 → Prop) (h : wp_J0_isLatin1_aae02 k K) : Met l yJ0_isLatin1_aae02 wsJ0_isLatin1_aae02 rmJ0_isLatin1_aae02 (va_Pc [.ref (adK k)] (zPG (dC, dI) (zT kI kZ) sz A0 adK adV [])) (va_Qi (fun (r : Int32) (u : Unit) => K r) (fun (u : Unit) => zB (dC, dI) (zT kI kZ) (va_A [] sz) []) (va_A [] sz)) 0 0 (va_A [] sz) := by
  refine zz_ofzG (cc := cJ0_isLatin1_aae02) (maxL := 1) (by decide) rfl (Nat.le_of_ble_eq_true rfl) hz ?_
  intro p e s m args below meth c A Q ls hx hb hml hown hts hK hA hG hAA hR hP hD hS hl
  have hE := hG.2.1.narrow hAA
  have hown : s.vm.findClass RJ0 = some m.cls := hown
  have hl : lv_has ls 1 [(0, .ref (adK k))] := hl
  unfold wp_J0_isLatin1_aae02 at h
  obtain ⟨H, eH⟩ : ∃ H, H = s.heap := ⟨_, rfl⟩
  obtain ⟨locs, eL⟩ : ∃ L : List Loc, L = [] := ⟨_, rfl⟩
  rw [← eL]
  have hS : va_S A s.heap s.heap locs := by rw [eL]; exact hS
  suffices hgo : ∀ H : Heap, va_P (dC, dI) vwCl [] H → va_S A s.heap H locs → W p l e rmJ0_isLatin1_aae02 s m args below meth c H locs 0 0 Q (F0 m 0 ls []) from hgo _ hP hS
  clear hP hS eH H eL
  intro H hP hS
  refine va_gets (C := "java/lang/String") (n := "COMPACT_STRINGS") (d := "Z") (v := .int 1) hx hb (hG.1.narrow hAA) hS hown (hts (.fieldLink RJ0 38 "java/lang/String" "COMPACT_STRINGS" "Z") (List.mem_cons_of_mem _ (List.mem_of_getElem? (i := 0) rfl))) (fun _ h9 => h9) dJ0_isLatin1_aae02_0 ?_
  refine lv_if_eq (tgt := 17) hx hb dJ0_isLatin1_aae02_3 (by decide) (fun c_ => absurd c_ (by decide)) (fun c_ => ?_)
  refine lv_aload_n hx hb dJ0_isLatin1_aae02_6 rfl (lv_at hl 0 rfl) ?_
  refine vk_getf hx hb (hE.1 k hk).2.1 hS hown (hts (.fieldLink RJ0 15 "java/lang/String" "coder" "B") (List.mem_cons_of_mem _ (List.mem_of_getElem? (i := 1) rfl))) (fun _ h9 => h9) dJ0_isLatin1_aae02_7 ?_
  refine lv_if_ne (tgt := 17) hx hb dJ0_isLatin1_aae02_10 (by decide) (fun c_ => absurd c_ (by decide)) (fun c_ => ?_)
  refine lv_iconst (v := 1) hx hb dJ0_isLatin1_aae02_13 (by decide) ?_
  refine lv_goto (tgt := 18) hx hb dJ0_isLatin1_aae02_14 (by decide) ?_
  exact hR 1 () H locs (Or.inr rfl) h hP hD hS _ ls dJ0_isLatin1_aae02_18
def wp_J0_length_8abf5 (k : Nat) (K : Int32 → Prop) : Prop :=
  wp_J0_coder_7d493 k (fun (r_1 : Int32) => K ((nI (lenS.getD k 0)) >>> (r_1 &&& 31)))
abbrev rmJ0_length_8abf5 : Room := { frames := 1, cells := 0, slots := 0, locals := 20 }
set_option maxHeartbeats 4000000 in
set_option maxRecDepth 100000 in
theorem c_J0_length_8abf5 (l : Launch) (dC : Nat → ClassId) (dI : Nat → Nat → Nat) (kI kZ : ClassId) (sz : Nat) (A0 : Nat → Prop) (adK adV : Nat → Nat) (hz : ∀ q, sz ≤ q → A0 q) (k : Nat) (hk : k < 2)  (K : Int32 → Prop) (h : wp_J0_length_8abf5 k K) : Met l yJ0_length_8abf5 wsJ0_length_8abf5 rmJ0_length_8abf5 (va_Pc [.ref (adK k)] (zPG (dC, dI) (zT kI kZ) sz A0 adK adV [])) (va_Qi (fun (r : Int32) (u : Unit) => K r) (fun (u : Unit) => zB (dC, dI) (zT kI kZ) (va_A [] sz) []) (va_A [] sz)) 0 0 (va_A [] sz) := by
  refine zz_ofiG (cc := cJ0_length_8abf5) (maxL := 1) (by decide) rfl (Nat.le_of_ble_eq_true rfl) hz ?_
  intro p e s m args below meth c A Q ls hx hb hml hown hts hK hA hG hAA hR hP hD hS hl
  have hE := hG.2.1.narrow hAA
  have hown : s.vm.findClass RJ0 = some m.cls := hown
  have hl : lv_has ls 1 [(0, .ref (adK k))] := hl
  unfold wp_J0_length_8abf5 at h
  obtain ⟨H, eH⟩ : ∃ H, H = s.heap := ⟨_, rfl⟩
  obtain ⟨locs, eL⟩ : ∃ L : List Loc, L = [] := ⟨_, rfl⟩
  rw [← eL]
  have hS : va_S A s.heap s.heap locs := by rw [eL]; exact hS
  suffices hgo : ∀ H : Heap, va_P (dC, dI) vwCl [] H → va_S A s.heap H locs → W p l e rmJ0_length_8abf5 s m args below meth c H locs 0 0 Q (F0 m 0 ls []) from hgo _ hP hS
  clear hP hS eH H eL
  intro H hP hS
  refine lv_aload_n hx hb dJ0_length_8abf5_0 rfl (lv_at hl 0 rfl) ?_
  refine vk_getf hx hb (hE.1 k hk).2.2.1 hS hown (hts (.fieldLink RJ0 9 "java/lang/String" "value" "[B") (List.mem_cons_of_mem _ (List.mem_of_getElem? (i := 0) rfl))) (fun _ h9 => h9) dJ0_length_8abf5_1 ?_
  refine va_tlen (v := nI (lenS.getD k 0)) hx hb (hE.1 k hk).2.2.2 hS rfl dJ0_length_8abf5_4 ?_
  refine lv_aload_n hx hb dJ0_length_8abf5_5 rfl (lv_at hl 0 rfl) ?_
  refine zz_ViS (As := []) (rest := [.int (nI (lenS.getD k 0))]) (wr := []) ⟨hx, hb, hml, hown, hts⟩ (cwV 0 hts gJ0_length_8abf5_J0_coder_7d493 rfl rfl rfl (by decide +kernel) ⟨Nat.le_of_ble_eq_true rfl, Nat.le_of_ble_eq_true rfl⟩) hK hP hD hS hA hG hAA (c_J0_coder_7d493 l dC dI kI kZ H.size A0 adK adV (fun q hq => hAA q (hA q (Nat.le_trans hS.1 hq))) k hk _ h) [] [] rfl rfl rfl rfl (by decide) hk rfl rfl rfl rfl hl.1 (Nat.le_of_ble_eq_true rfl) dJ0_length_8abf5_6 (Nat.le_refl _) (Nat.le_refl _) (fun r_1 u_1 H locs h hP hD hS => ?_)
  have hP : va_P (dC, dI) vwCl [] H := hP.sub [] rfl
  have hD : va_D A [] := hD.sub [] rfl rfl
  refine lv_ishr hx hb dJ0_length_8abf5_9 ?_
  exact hR ((nI (lenS.getD k 0)) >>> (r_1 &&& 31)) () H locs h hP hD hS _ ls dJ0_length_8abf5_10
def wp_J1_canEncode_9a6ad (a0 : Int32) (K : Int32 → Prop) : Prop :=
  ((a0 < 0) → (K 0)) ∧ ((¬ a0 < 0) → (((255 < a0) → (K 0)) ∧ ((¬ 255 < a0) → (K 1))))
abbrev rmJ1_canEncode_9a6ad : Room := { frames := 0, cells := 0, slots := 0, locals := 0 }
set_option maxHeartbeats 4000000 in
set_option maxRecDepth 100000 in
theorem c_J1_canEncode_9a6ad (l : Launch) (dC : Nat → ClassId) (dI : Nat → Nat → Nat) (kI kZ : ClassId) (sz : Nat) (A0 : Nat → Prop) (adK adV : Nat → Nat) (hz : ∀ q, sz ≤ q → A0 q) (a0 : Int32) (K : Int32 → Prop) (h : wp_J1_canEncode_9a6ad a0 K) : Met l yJ1_canEncode_9a6ad wsJ1_canEncode_9a6ad rmJ1_canEncode_9a6ad (va_Pc [.int a0] (zPG (dC, dI) (zT kI kZ) sz A0 adK adV [])) (va_Qi (fun (r : Int32) (u : Unit) => K r) (fun (u : Unit) => zB (dC, dI) (zT kI kZ) (va_A [] sz) []) (va_A [] sz)) 0 0 (va_A [] sz) := by
  refine zz_ofzG (cc := cJ1_canEncode_9a6ad) (maxL := 1) (by decide) rfl (Nat.le_of_ble_eq_true rfl) hz ?_
  intro p e s m args below meth c A Q ls hx hb hml hown hts hK hA hG hAA hR hP hD hS hl
  have hown : s.vm.findClass RJ1 = some m.cls := hown
  have hl : lv_has ls 1 [(0, .int a0)] := hl
  unfold wp_J1_canEncode_9a6ad at h
  obtain ⟨H, eH⟩ : ∃ H, H = s.heap := ⟨_, rfl⟩
  obtain ⟨locs, eL⟩ : ∃ L : List Loc, L = [] := ⟨_, rfl⟩
  rw [← eL]
  have hS : va_S A s.heap s.heap locs := by rw [eL]; exact hS
  suffices hgo : ∀ H : Heap, va_P (dC, dI) vwCl [] H → va_S A s.heap H locs → W p l e rmJ1_canEncode_9a6ad s m args below meth c H locs 0 0 Q (F0 m 0 ls []) from hgo _ hP hS
  clear hP hS eH H eL
  intro H hP hS
  refine lv_iload_n hx hb dJ1_canEncode_9a6ad_0 rfl (lv_at hl 0 rfl) ?_
  refine lv_if_lt (tgt := 15) hx hb dJ1_canEncode_9a6ad_1 (by decide) (fun c_ => ?_) (fun c_ => ?_)
  · have h := h.1 c_
    refine lv_iconst (v := 0) hx hb dJ1_canEncode_9a6ad_15 (by decide) ?_
    exact hR 0 () H locs (Or.inl rfl) h hP hD hS _ ls dJ1_canEncode_9a6ad_16
  · have h := h.2 c_
    refine lv_iload_n hx hb dJ1_canEncode_9a6ad_4 rfl (lv_at hl 0 rfl) ?_
    refine lv_sipush (v := 255) hx hb dJ1_canEncode_9a6ad_5 (by decide) ?_
    refine lv_icmp_gt (tgt := 15) hx hb dJ1_canEncode_9a6ad_8 (by decide) (fun c_ => ?_) (fun c_ => ?_)
    · have h := h.1 c_
      refine lv_iconst (v := 0) hx hb dJ1_canEncode_9a6ad_15 (by decide) ?_
      exact hR 0 () H locs (Or.inl rfl) h hP hD hS _ ls dJ1_canEncode_9a6ad_16
    · have h := h.2 c_
      refine lv_iconst (v := 1) hx hb dJ1_canEncode_9a6ad_11 (by decide) ?_
      refine lv_goto (tgt := 16) hx hb dJ1_canEncode_9a6ad_12 (by decide) ?_
      exact hR 1 () H locs (Or.inr rfl) h hP hD hS _ ls dJ1_canEncode_9a6ad_16
def wp_J1_indexOfChar_4cfef (k : Nat) (a1 : Int32) (a2 : Int32) (a3 : Int32) (K : Int32 → Prop) : Prop :=
  ∀ v_1 : Int32, v_1 = (Int32.toInt8 a1).toInt32 → (∀ L7 : Int32 → Prop, (∀ (x5_1 : Int32), (((a3 ≤ x5_1) → (K (-1))) ∧ ((¬ a3 ≤ x5_1) → (vp_in x5_1 (lenS.getD k 0) ∧ (((¬ ((bytS.getD k []).getD (Int32.toNatClampNeg x5_1) 0) = v_1) → (L7 (x5_1 + 1))) ∧ ((((bytS.getD k []).getD (Int32.toNatClampNeg x5_1) 0) = v_1) → (K x5_1)))))) → L7 x5_1) → L7 a2)
abbrev rmJ1_indexOfChar_4cfef : Room := { frames := 0, cells := 0, slots := 0, locals := 0 }
set_option maxHeartbeats 4000000 in
set_option maxRecDepth 100000 in
theorem c_J1_indexOfChar_4cfef (l : Launch) (dC : Nat → ClassId) (dI : Nat → Nat → Nat) (kI kZ : ClassId) (sz : Nat) (A0 : Nat → Prop) (adK adV : Nat → Nat) (hz : ∀ q, sz ≤ q → A0 q) (k : Nat) (hk : k < 2) (a1 : Int32) (a2 : Int32) (a3 : Int32) (K : Int32 → Prop) (h : wp_J1_indexOfChar_4cfef k a1 a2 a3 K) : Met l yJ1_indexOfChar_4cfef wsJ1_indexOfChar_4cfef rmJ1_indexOfChar_4cfef (va_Pc [.ref (adV k), .int a1, .int a2, .int a3] (zPG (dC, dI) (zT kI kZ) sz A0 adK adV [])) (va_Qi (fun (r : Int32) (u : Unit) => K r) (fun (u : Unit) => zB (dC, dI) (zT kI kZ) (va_A [] sz) []) (va_A [] sz)) 0 0 (va_A [] sz) := by
  refine zz_ofiG (cc := cJ1_indexOfChar_4cfef) (maxL := 6) (by decide) rfl (Nat.le_of_ble_eq_true rfl) hz ?_
  intro p e s m args below meth c A Q ls hx hb hml hown hts hK hA hG hAA hR hP hD hS hl
  have hE := hG.2.1.narrow hAA
  have hown : s.vm.findClass RJ1 = some m.cls := hown
  have hl : lv_has ls 6 [(0, .ref (adV k)), (1, .int a1), (2, .int a2), (3, .int a3)] := hl
  unfold wp_J1_indexOfChar_4cfef at h
  obtain ⟨H, eH⟩ : ∃ H, H = s.heap := ⟨_, rfl⟩
  obtain ⟨locs, eL⟩ : ∃ L : List Loc, L = [] := ⟨_, rfl⟩
  rw [← eL]
  have hS : va_S A s.heap s.heap locs := by rw [eL]; exact hS
  suffices hgo : ∀ H : Heap, va_P (dC, dI) vwCl [] H → va_S A s.heap H locs → W p l e rmJ1_indexOfChar_4cfef s m args below meth c H locs 0 0 Q (F0 m 0 ls []) from hgo _ hP hS
  clear hP hS eH H eL
  intro H hP hS
  refine lv_iload_n hx hb dJ1_indexOfChar_4cfef_0 rfl (lv_at hl 1 rfl) ?_
  refine lv_i2b hx hb dJ1_indexOfChar_4cfef_1 rfl ?_
  refine lv_topi (fun v_1 ev_1 => ?_)
  have h := h v_1 ev_1
  refine lv_istore (lv' := [(4, .int v_1), (0, .ref (adV k)), (1, .int a1), (2, .int a2), (3, .int a3)]) hx hb dJ1_indexOfChar_4cfef_2 hl (by decide) rfl (fun ls hl => ?_)
  refine lv_iload_n hx hb dJ1_indexOfChar_4cfef_4 rfl (lv_at hl 3 rfl) ?_
  refine lv_istore (lv' := [(5, .int a2), (4, .int v_1), (0, .ref (adV k)), (1, .int a1), (2, .int a2), (3, .int a3)]) hx hb dJ1_indexOfChar_4cfef_5 hl (by decide) rfl (fun ls hl => ?_)
  refine h (fun (x5_1 : Int32) => ∀ (H : Heap) (locs : List Loc), va_P (dC, dI) vwCl [] H → va_D A [] → va_S A s.heap H locs → ∀ ls : Array Slot, lv_has ls 6 [(0, .ref (adV k)), (3, .int a3), (4, .int v_1), (5, .int x5_1)] → W p l e rmJ1_indexOfChar_4cfef s m args below meth c H locs 0 0 Q (F0 m 7 ls [])) ?_ H locs hP hD hS ls (lv_sub hl [2, 5, 1, 0] rfl)
  clear h hP hD hS hl
  intro x5_1 h H locs hP hD hS ls hl
  refine lv_iload hx hb dJ1_indexOfChar_4cfef_7 (lv_at hl 3 rfl) ?_
  refine lv_iload_n hx hb dJ1_indexOfChar_4cfef_9 rfl (lv_at hl 1 rfl) ?_
  refine lv_icmp_ge (tgt := 31) hx hb dJ1_indexOfChar_4cfef_10 (by decide) (fun c_ => ?_) (fun c_ => ?_)
  · have h := h.1 c_
    refine lv_iconst (v := (-1)) hx hb dJ1_indexOfChar_4cfef_31 (by decide) ?_
    exact hR (-1) () H locs h hP hD hS _ ls dJ1_indexOfChar_4cfef_32
  · have h := h.2 c_
    refine lv_aload_n hx hb dJ1_indexOfChar_4cfef_13 rfl (lv_at hl 0 rfl) ?_
    refine lv_iload hx hb dJ1_indexOfChar_4cfef_14 (lv_at hl 3 rfl) ?_
    have hi := h.1
    have h := h.2
    refine va_tb hx hb (hE.1 k hk).2.2.2 hS hi rfl dJ1_indexOfChar_4cfef_16 ?_
    refine lv_iload hx hb dJ1_indexOfChar_4cfef_17 (lv_at hl 2 rfl) ?_
    refine lv_icmp_ne (tgt := 25) hx hb dJ1_indexOfChar_4cfef_19 (by decide) (fun c_ => ?_) (fun c_ => ?_)
    · have h := h.1 c_
      refine lv_iinc (v := (x5_1 + 1)) (lv' := [(5, .int (x5_1 + 1)), (0, .ref (adV k)), (3, .int a3), (4, .int v_1)]) hx hb dJ1_indexOfChar_4cfef_25 hl (k := 3) rfl rfl (by decide) rfl (fun ls hl => ?_)
      refine lv_goto (tgt := 7) hx hb dJ1_indexOfChar_4cfef_28 (by decide) ?_
      exact h H locs hP hD hS ls (lv_sub hl [1, 2, 3, 0] rfl)
    · have h := h.2 c_
      refine lv_iload hx hb dJ1_indexOfChar_4cfef_22 (lv_at hl 3 rfl) ?_
      exact hR x5_1 () H locs h hP hD hS _ ls dJ1_indexOfChar_4cfef_24
def wp_J1_indexOf_4cfef (k : Nat) (a1 : Int32) (a2 : Int32) (a3 : Int32) (K : Int32 → Prop) : Prop :=
  wp_J1_canEncode_9a6ad a1 (fun (r_1 : Int32) => ((¬ r_1 = 0) → (∀ v_1 : Int32, v_1 = (if a2 < 0 then 0 else a2) → (∀ v_2 : Int32, v_2 = (if (nI (lenS.getD k 0)) < a3 then (nI (lenS.getD k 0)) else a3) → (((v_1 < v_2) → (wp_J1_indexOfChar_4cfef k a1 v_1 v_2 (fun (r_2 : Int32) => K r_2))) ∧ ((¬ v_1 < v_2) → (K (-1))))))) ∧ ((r_1 = 0) → (K (-1))))
abbrev rmJ1_indexOf_4cfef : Room := { frames := 1, cells := 0, slots := 0, locals := 25 }
set_option maxHeartbeats 4000000 in
set_option maxRecDepth 100000 in
theorem c_J1_indexOf_4cfef (l : Launch) (dC : Nat → ClassId) (dI : Nat → Nat → Nat) (kI kZ : ClassId) (sz : Nat) (A0 : Nat → Prop) (adK adV : Nat → Nat) (hz : ∀ q, sz ≤ q → A0 q) (k : Nat) (hk : k < 2) (a1 : Int32) (a2 : Int32) (a3 : Int32) (K : Int32 → Prop) (h : wp_J1_indexOf_4cfef k a1 a2 a3 K) : Met l yJ1_indexOf_4cfef wsJ1_indexOf_4cfef rmJ1_indexOf_4cfef (va_Pc [.ref (adV k), .int a1, .int a2, .int a3] (zPG (dC, dI) (zT kI kZ) sz A0 adK adV [])) (va_Qi (fun (r : Int32) (u : Unit) => K r) (fun (u : Unit) => zB (dC, dI) (zT kI kZ) (va_A [] sz) []) (va_A [] sz)) 0 0 (va_A [] sz) := by
  refine zz_ofiG (cc := cJ1_indexOf_4cfef) (maxL := 4) (by decide) rfl (Nat.le_of_ble_eq_true rfl) hz ?_
  intro p e s m args below meth c A Q ls hx hb hml hown hts hK hA hG hAA hR hP hD hS hl
  have hE := hG.2.1.narrow hAA
  have hown : s.vm.findClass RJ1 = some m.cls := hown
  have hl : lv_has ls 4 [(0, .ref (adV k)), (1, .int a1), (2, .int a2), (3, .int a3)] := hl
  unfold wp_J1_indexOf_4cfef at h
  obtain ⟨H, eH⟩ : ∃ H, H = s.heap := ⟨_, rfl⟩
  obtain ⟨locs, eL⟩ : ∃ L : List Loc, L = [] := ⟨_, rfl⟩
  rw [← eL]
  have hS : va_S A s.heap s.heap locs := by rw [eL]; exact hS
  suffices hgo : ∀ H : Heap, va_P (dC, dI) vwCl [] H → va_S A s.heap H locs → W p l e rmJ1_indexOf_4cfef s m args below meth c H locs 0 0 Q (F0 m 0 ls []) from hgo _ hP hS
  clear hP hS eH H eL
  intro H hP hS
  refine lv_iload_n hx hb dJ1_indexOf_4cfef_0 rfl (lv_at hl 1 rfl) ?_
  refine zz_SiG (As := [.int a1]) (rest := []) (wr := []) ⟨hx, hb, hml, hown, hts⟩ (va_cwS 1 hts gJ1_indexOf_4cfef_J1_canEncode_9a6ad rfl rfl rfl (by decide +kernel) ⟨Nat.le_of_ble_eq_true rfl, Nat.le_of_ble_eq_true rfl⟩) hK hP hD hS hA hG hAA (c_J1_canEncode_9a6ad l dC dI kI kZ H.size A0 adK adV (fun q hq => hAA q (hA q (Nat.le_trans hS.1 hq))) a1 _ h) [] [] rfl rfl rfl rfl (by decide) rfl rfl hl.1 (Nat.le_of_ble_eq_true rfl) dJ1_indexOf_4cfef_1 (Nat.le_refl _) (Nat.le_refl _) (fun r_1 u_1 H locs h hP hD hS => ?_)
  have hP : va_P (dC, dI) vwCl [] H := hP.sub [] rfl
  have hD : va_D A [] := hD.sub [] rfl rfl
  refine lv_if_ne (tgt := 9) hx hb dJ1_indexOf_4cfef_4 (by decide) (fun c_ => ?_) (fun c_ => ?_)
  · have h := h.1 c_
    refine lv_iload_n hx hb dJ1_indexOf_4cfef_9 rfl (lv_at hl 2 rfl) ?_
    refine lv_iconst (v := 0) hx hb dJ1_indexOf_4cfef_10 (by decide) ?_
    refine va_mmax hx hb (hml.trans hl.1.symm) hown (hts (.methodLink RJ1 92 Lib.Math.max.name) (List.mem_cons_of_mem _ (List.mem_of_getElem? (i := 0) rfl))) (hts (.static Lib.Math.max.name) (List.mem_cons_of_mem _ (List.mem_of_getElem? (i := 1) rfl))) (hts (.initialized "java/lang/Math") (List.mem_cons_of_mem _ (List.mem_of_getElem? (i := 2) rfl))) (hts (.code Lib.Math.max.name Lib.Math.max.code 2 (some .int)) (List.mem_cons_of_mem _ (List.mem_of_getElem? (i := 3) rfl))) (Nat.le_of_ble_eq_true rfl) (Nat.le_of_ble_eq_true rfl) (Nat.le_refl _) (Nat.le_refl _) dJ1_indexOf_4cfef_11 ?_
    refine lv_topi (fun v_1 ev_1 => ?_)
    have h := h v_1 ev_1
    refine lv_istore_n (lv' := [(2, .int v_1), (0, .ref (adV k)), (1, .int a1), (3, .int a3)]) hx hb dJ1_indexOf_4cfef_14 rfl hl (by decide) rfl (fun ls hl => ?_)
    refine lv_iload_n hx hb dJ1_indexOf_4cfef_15 rfl (lv_at hl 3 rfl) ?_
    refine lv_aload_n hx hb dJ1_indexOf_4cfef_16 rfl (lv_at hl 1 rfl) ?_
    refine va_tlen (v := nI (lenS.getD k 0)) hx hb (hE.1 k hk).2.2.2 hS rfl dJ1_indexOf_4cfef_17 ?_
    refine va_mmin hx hb (hml.trans hl.1.symm) hown (hts (.methodLink RJ1 38 Lib.Math.min.name) (List.mem_cons_of_mem _ (List.mem_of_getElem? (i := 4) rfl))) (hts (.static Lib.Math.min.name) (List.mem_cons_of_mem _ (List.mem_of_getElem? (i := 5) rfl))) (hts (.initialized "java/lang/Math") (List.mem_cons_of_mem _ (List.mem_of_getElem? (i := 2) rfl))) (hts (.code Lib.Math.min.name Lib.Math.min.code 2 (some .int)) (List.mem_cons_of_mem _ (List.mem_of_getElem? (i := 6) rfl))) (Nat.le_of_ble_eq_true rfl) (Nat.le_of_ble_eq_true rfl) (Nat.le_refl _) (Nat.le_refl _) dJ1_indexOf_4cfef_18 ?_
    refine lv_topi (fun v_2 ev_2 => ?_)
    have h := h v_2 ev_2
    refine lv_istore_n (lv' := [(3, .int v_2), (2, .int v_1), (0, .ref (adV k)), (1, .int a1)]) hx hb dJ1_indexOf_4cfef_21 rfl hl (by decide) rfl (fun ls hl => ?_)
    refine lv_iload_n hx hb dJ1_indexOf_4cfef_22 rfl (lv_at hl 1 rfl) ?_
    refine lv_iload_n hx hb dJ1_indexOf_4cfef_23 rfl (lv_at hl 0 rfl) ?_
    refine lv_icmp_lt (tgt := 29) hx hb dJ1_indexOf_4cfef_24 (by decide) (fun c_ => ?_) (fun c_ => ?_)
    · have h := h.1 c_
      refine lv_aload_n hx hb dJ1_indexOf_4cfef_29 rfl (lv_at hl 2 rfl) ?_
      refine lv_iload_n hx hb dJ1_indexOf_4cfef_30 rfl (lv_at hl 3 rfl) ?_
      refine lv_iload_n hx hb dJ1_indexOf_4cfef_31 rfl (lv_at hl 1 rfl) ?_
      refine lv_iload_n hx hb dJ1_indexOf_4cfef_32 rfl (lv_at hl 0 rfl) ?_
      refine zz_SiG (As := [.ref (adV k), .int a1, .int v_1, .int v_2]) (rest := []) (wr := []) ⟨hx, hb, hml, hown, hts⟩ (va_cwS 4 hts gJ1_indexOf_4cfef_J1_indexOfChar_4cfef rfl rfl rfl (by decide +kernel) ⟨Nat.le_of_ble_eq_true rfl, Nat.le_of_ble_eq_true rfl⟩) hK hP hD hS hA hG hAA (c_J1_indexOfChar_4cfef l dC dI kI kZ H.size A0 adK adV (fun q hq => hAA q (hA q (Nat.le_trans hS.1 hq))) k hk a1 v_1 v_2 _ h) [] [] rfl rfl rfl rfl (by decide) rfl rfl hl.1 (Nat.le_of_ble_eq_true rfl) dJ1_indexOf_4cfef_33 (Nat.le_refl _) (Nat.le_refl _) (fun r_2 u_2 H locs h hP hD hS => ?_)
      have hP : va_P (dC, dI) vwCl [] H := hP.sub [] rfl
      have hD : va_D A [] := hD.sub [] rfl rfl
      exact hR r_2 () H locs h hP hD hS _ ls dJ1_indexOf_4cfef_36
    · have h := h.2 c_
      refine lv_iconst (v := (-1)) hx hb dJ1_indexOf_4cfef_27 (by decide) ?_
      exact hR (-1) () H locs h hP hD hS _ ls dJ1_indexOf_4cfef_28
  · have h := h.2 c_
    refine lv_iconst (v := (-1)) hx hb dJ1_indexOf_4cfef_7 (by decide) ?_
    exact hR (-1) () H locs h hP hD hS _ ls dJ1_indexOf_4cfef_8
def wp_J0_indexOf_7cf53 (k : Nat) (a1 : Int32) (a2 : Int32) (K : Int32 → Prop) : Prop :=
  wp_J0_isLatin1_aae02 k (fun (r_1 : Int32) => ((r_1 = 0) → (False)) ∧ ((¬ r_1 = 0) → (wp_J0_length_8abf5 k (fun (r_2 : Int32) => wp_J1_indexOf_4cfef k a1 a2 r_2 (fun (r_3 : Int32) => K r_3)))))
abbrev rmJ0_indexOf_7cf53 : Room := { frames := 2, cells := 0, slots := 0, locals := 48 }
set_option maxHeartbeats 4000000 in
set_option maxRecDepth 100000 in
theorem c_J0_indexOf_7cf53 (l : Launch) (dC : Nat → ClassId) (dI : Nat → Nat → Nat) (kI kZ : ClassId) (sz : Nat) (A0 : Nat → Prop) (adK adV : Nat → Nat) (hz : ∀ q, sz ≤ q → A0 q) (k : Nat) (hk : k < 2) (a1 : Int32) (a2 : Int32) (K : Int32 → Prop) (h : wp_J0_indexOf_7cf53 k a1 a2 K) : Met l yJ0_indexOf_7cf53 wsJ0_indexOf_7cf53 rmJ0_indexOf_7cf53 (va_Pc [.ref (adK k), .int a1, .int a2] (zPG (dC, dI) (zT kI kZ) sz A0 adK adV [])) (va_Qi (fun (r : Int32) (u : Unit) => K r) (fun (u : Unit) => zB (dC, dI) (zT kI kZ) (va_A [] sz) []) (va_A [] sz)) 0 0 (va_A [] sz) := by
  refine zz_ofiG (cc := cJ0_indexOf_7cf53) (maxL := 3) (by decide) rfl (Nat.le_of_ble_eq_true rfl) hz ?_
  intro p e s m args below meth c A Q ls hx hb hml hown hts hK hA hG hAA hR hP hD hS hl
  have hE := hG.2.1.narrow hAA
  have hown : s.vm.findClass RJ0 = some m.cls := hown
  have hl : lv_has ls 3 [(0, .ref (adK k)), (1, .int a1), (2, .int a2)] := hl
  unfold wp_J0_indexOf_7cf53 at h
  obtain ⟨H, eH⟩ : ∃ H, H = s.heap := ⟨_, rfl⟩
  obtain ⟨locs, eL⟩ : ∃ L : List Loc, L = [] := ⟨_, rfl⟩
  rw [← eL]
  have hS : va_S A s.heap s.heap locs := by rw [eL]; exact hS
  suffices hgo : ∀ H : Heap, va_P (dC, dI) vwCl [] H → va_S A s.heap H locs → W p l e rmJ0_indexOf_7cf53 s m args below meth c H locs 0 0 Q (F0 m 0 ls []) from hgo _ hP hS
  clear hP hS eH H eL
  intro H hP hS
  refine lv_aload_n hx hb dJ0_indexOf_7cf53_0 rfl (lv_at hl 0 rfl) ?_
  refine zz_ViS (As := []) (rest := []) (wr := []) ⟨hx, hb, hml, hown, hts⟩ (cwV 0 hts gJ0_indexOf_7cf53_J0_isLatin1_aae02 rfl rfl rfl (by decide +kernel) ⟨Nat.le_of_ble_eq_true rfl, Nat.le_of_ble_eq_true rfl⟩) hK hP hD hS hA hG hAA (c_J0_isLatin1_aae02 l dC dI kI kZ H.size A0 adK adV (fun q hq => hAA q (hA q (Nat.le_trans hS.1 hq))) k hk _ h) [] [] rfl rfl rfl rfl (by decide) hk rfl rfl rfl rfl hl.1 (Nat.le_of_ble_eq_true rfl) dJ0_indexOf_7cf53_1 (Nat.le_refl _) (Nat.le_refl _) (fun r_1 u_1 H locs h hP hD hS => ?_)
  have hP : va_P (dC, dI) vwCl [] H := hP.sub [] rfl
  have hD : va_D A [] := hD.sub [] rfl rfl
  refine lv_if_eq (tgt := 23) hx hb dJ0_indexOf_7cf53_4 (by decide) (fun c_ => ?_) (fun c_ => ?_)
  · have h := h.1 c_
    exact h.elim
  · have h := h.2 c_
    refine lv_aload_n hx hb dJ0_indexOf_7cf53_7 rfl (lv_at hl 0 rfl) ?_
    refine vk_getf hx hb (hE.1 k hk).2.2.1 hS hown (hts (.fieldLink RJ0 9 "java/lang/String" "value" "[B") (List.mem_cons_of_mem _ (List.mem_append_left _ (List.mem_of_getElem? (i := 0) rfl)))) (fun _ h9 => h9) dJ0_indexOf_7cf53_8 ?_
    refine lv_iload_n hx hb dJ0_indexOf_7cf53_11 rfl (lv_at hl 1 rfl) ?_
    refine lv_iload_n hx hb dJ0_indexOf_7cf53_12 rfl (lv_at hl 2 rfl) ?_
    refine lv_aload_n hx hb dJ0_indexOf_7cf53_13 rfl (lv_at hl 0 rfl) ?_
    refine zz_ViS (As := []) (rest := [.int a2, .int a1, .ref (adV k)]) (wr := []) ⟨hx, hb, hml, hown, hts⟩ (cwV 0 hts gJ0_indexOf_7cf53_J0_length_8abf5 rfl rfl rfl (by decide +kernel) ⟨Nat.le_of_ble_eq_true rfl, Nat.le_of_ble_eq_true rfl⟩) hK hP hD hS hA hG hAA (c_J0_length_8abf5 l dC dI kI kZ H.size A0 adK adV (fun q hq => hAA q (hA q (Nat.le_trans hS.1 hq))) k hk _ h) [] [] rfl rfl rfl rfl (by decide) hk rfl rfl rfl rfl hl.1 (Nat.le_of_ble_eq_true rfl) dJ0_indexOf_7cf53_14 (Nat.le_refl _) (Nat.le_refl _) (fun r_2 u_2 H locs h hP hD hS => ?_)
    have hP : va_P (dC, dI) vwCl [] H := hP.sub [] rfl
    have hD : va_D A [] := hD.sub [] rfl rfl
    refine zz_SiG (As := [.ref (adV k), .int a1, .int a2, .int r_2]) (rest := []) (wr := []) ⟨hx, hb, hml, hown, hts⟩ (va_cwS 4 hts gJ0_indexOf_7cf53_J1_indexOf_4cfef rfl rfl rfl (by decide +kernel) ⟨Nat.le_of_ble_eq_true rfl, Nat.le_of_ble_eq_true rfl⟩) hK hP hD hS hA hG hAA (c_J1_indexOf_4cfef l dC dI kI kZ H.size A0 adK adV (fun q hq => hAA q (hA q (Nat.le_trans hS.1 hq))) k hk a1 a2 r_2 _ h) [] [] rfl rfl rfl rfl (by decide) rfl rfl hl.1 (Nat.le_of_ble_eq_true rfl) dJ0_indexOf_7cf53_17 (Nat.le_refl _) (Nat.le_refl _) (fun r_3 u_3 H locs h hP hD hS => ?_)
    have hP : va_P (dC, dI) vwCl [] H := hP.sub [] rfl
    have hD : va_D A [] := hD.sub [] rfl rfl
    refine lv_goto (tgt := 36) hx hb dJ0_indexOf_7cf53_20 (by decide) ?_
    exact hR r_3 () H locs h hP hD hS _ ls dJ0_indexOf_7cf53_36
def wp_J0_indexOf_0f7a4 (k : Nat) (a1 : Int32) (K : Int32 → Prop) : Prop :=
  wp_J0_indexOf_7cf53 k a1 0 (fun (r_1 : Int32) => K r_1)
abbrev rmJ0_indexOf_0f7a4 : Room := { frames := 3, cells := 0, slots := 0, locals := 70 }
set_option maxHeartbeats 4000000 in
set_option maxRecDepth 100000 in
theorem c_J0_indexOf_0f7a4 (l : Launch) (dC : Nat → ClassId) (dI : Nat → Nat → Nat) (kI kZ : ClassId) (sz : Nat) (A0 : Nat → Prop) (adK adV : Nat → Nat) (hz : ∀ q, sz ≤ q → A0 q) (k : Nat) (hk : k < 2) (a1 : Int32) (K : Int32 → Prop) (h : wp_J0_indexOf_0f7a4 k a1 K) : Met l yJ0_indexOf_0f7a4 wsJ0_indexOf_0f7a4 rmJ0_indexOf_0f7a4 (va_Pc [.ref (adK k), .int a1] (zPG (dC, dI) (zT kI kZ) sz A0 adK adV [])) (va_Qi (fun (r : Int32) (u : Unit) => K r) (fun (u : Unit) => zB (dC, dI) (zT kI kZ) (va_A [] sz) []) (va_A [] sz)) 0 0 (va_A [] sz) := by
  refine zz_ofiG (cc := cJ0_indexOf_0f7a4) (maxL := 2) (by decide) rfl (Nat.le_of_ble_eq_true rfl) hz ?_
  intro p e s m args below meth c A Q ls hx hb hml hown hts hK hA hG hAA hR hP hD hS hl
  have hE := hG.2.1.narrow hAA
  have hown : s.vm.findClass RJ0 = some m.cls := hown
  have hl : lv_has ls 2 [(0, .ref (adK k)), (1, .int a1)] := hl
  unfold wp_J0_indexOf_0f7a4 at h
  obtain ⟨H, eH⟩ : ∃ H, H = s.heap := ⟨_, rfl⟩
  obtain ⟨locs, eL⟩ : ∃ L : List Loc, L = [] := ⟨_, rfl⟩
  rw [← eL]
  have hS : va_S A s.heap s.heap locs := by rw [eL]; exact hS
  suffices hgo : ∀ H : Heap, va_P (dC, dI) vwCl [] H → va_S A s.heap H locs → W p l e rmJ0_indexOf_0f7a4 s m args below meth c H locs 0 0 Q (F0 m 0 ls []) from hgo _ hP hS
  clear hP hS eH H eL
  intro H hP hS
  refine lv_aload_n hx hb dJ0_indexOf_0f7a4_0 rfl (lv_at hl 0 rfl) ?_
  refine lv_iload_n hx hb dJ0_indexOf_0f7a4_1 rfl (lv_at hl 1 rfl) ?_
  refine lv_iconst (v := 0) hx hb dJ0_indexOf_0f7a4_2 (by decide) ?_
  refine zz_ViS (As := [.int a1, .int 0]) (rest := []) (wr := []) ⟨hx, hb, hml, hown, hts⟩ (cwV 2 hts gJ0_indexOf_0f7a4_J0_indexOf_7cf53 rfl rfl rfl (by decide +kernel) ⟨Nat.le_of_ble_eq_true rfl, Nat.le_of_ble_eq_true rfl⟩) hK hP hD hS hA hG hAA (c_J0_indexOf_7cf53 l dC dI kI kZ H.size A0 adK adV (fun q hq => hAA q (hA q (Nat.le_trans hS.1 hq))) k hk a1 0 _ h) [] [] rfl rfl rfl rfl (by decide) hk rfl rfl rfl rfl hl.1 (Nat.le_of_ble_eq_true rfl) dJ0_indexOf_0f7a4_3 (Nat.le_refl _) (Nat.le_refl _) (fun r_1 u_1 H locs h hP hD hS => ?_)
  have hP : va_P (dC, dI) vwCl [] H := hP.sub [] rfl
  have hD : va_D A [] := hD.sub [] rfl rfl
  exact hR r_1 () H locs h hP hD hS _ ls dJ0_indexOf_0f7a4_6
def wp_X5_addCode (pa_row : Nat) (pa_up : Int32) (pa_aside : Int32) (pa_letters : Nat → Int32) (pa_used : Int32) (pa_n : Nat) (a1 : Int32) (K : (Nat → Int32) → Int32 → Prop) : Prop :=
  ((¬ a1 = 32) → (∀ J40 : Prop, ((∀ J74 : Prop, ((wp_X5_addLetter pa_letters pa_used pa_n pa_aside (fun (pa_letters_1 : Nat → Int32) (pa_used_1 : Int32) => pa_row < 2 ∧ (wp_J0_indexOf_0f7a4 pa_row (((Int32.toUInt32 a1) % 65536).toInt32) (fun (r_1 : Int32) => ((r_1 < 0) → (wp_X5_addLetter pa_letters_1 pa_used_1 pa_n 6 (fun (pa_letters_2 : Nat → Int32) (pa_used_2 : Int32) => wp_X5_addLetter pa_letters_2 pa_used_2 pa_n (a1 / 32) (fun (pa_letters_3 : Nat → Int32) (pa_used_3 : Int32) => wp_X5_addLetter pa_letters_3 pa_used_3 pa_n (a1 - a1 / 32 * 32) (fun (pa_letters_4 : Nat → Int32) (pa_used_4 : Int32) => K pa_letters_4 pa_used_4))))) ∧ ((¬ r_1 < 0) → (wp_X5_addLetter pa_letters_1 pa_used_1 pa_n (r_1 + 7) (fun (pa_letters_5 : Nat → Int32) (pa_used_5 : Int32) => K pa_letters_5 pa_used_5))))))) → J74) → (((a1 < 65) → (J74)) ∧ ((¬ a1 < 65) → (((90 < a1) → (J74)) ∧ ((¬ 90 < a1) → (wp_X5_addLetter pa_letters pa_used pa_n pa_up (fun (pa_letters_6 : Nat → Int32) (pa_used_6 : Int32) => wp_X5_addLetter pa_letters_6 pa_used_6 pa_n ((a1 - 65) + 6) (fun (pa_letters_7 : Nat → Int32) (pa_used_7 : Int32) => K pa_letters_7 pa_used_7)))))))) → J40) → (((a1 < 97) → (J40)) ∧ ((¬ a1 < 97) → (((122 < a1) → (J40)) ∧ ((¬ 122 < a1) → (wp_X5_addLetter pa_letters pa_used pa_n ((a1 - 97) + 6) (fun (pa_letters_8 : Nat → Int32) (pa_used_8 : Int32) => K pa_letters_8 pa_used_8)))))))) ∧ ((a1 = 32) → (wp_X5_addLetter pa_letters pa_used pa_n 0 (fun (pa_letters_9 : Nat → Int32) (pa_used_9 : Int32) => K pa_letters_9 pa_used_9)))
abbrev rmX5_addCode : Room := { frames := 4, cells := 0, slots := 0, locals := 91 }
set_option maxHeartbeats 4000000 in
set_option maxRecDepth 100000 in
theorem c_X5_addCode (l : Launch) (dC : Nat → ClassId) (dI : Nat → Nat → Nat) (kI kZ : ClassId) (sz : Nat) (A0 : Nat → Prop) (adK adV : Nat → Nat) (hz : ∀ q, sz ≤ q → A0 q) (p_pa : Nat) (p_me : Nat) (p_pa_letters : Nat) (pa_octets : Int32) (pa_row : Nat) (pa_up : Int32) (pa_aside : Int32) (pa_letters : Nat → Int32) (pa_used : Int32) (pa_n : Nat) (a1 : Int32) (K : (Nat → Int32) → Int32 → Prop) (h : wp_X5_addCode pa_row pa_up pa_aside pa_letters pa_used pa_n a1 K) : Met l yX5_addCode wsX5_addCode rmX5_addCode (va_Pc [.ref p_pa, .int a1] (zPG (dC, dI) (zT kI kZ) sz A0 adK adV [(p_pa, .inr (5, [.int pa_octets, .ref p_me, .ref (adK pa_row), .int pa_up, .int pa_aside, .ref p_pa_letters, .int pa_used])), (p_pa_letters, .inl (kI, pa_n, .inl pa_letters))])) (va_Qv (fun (u : (Nat → Int32) × Int32) => K u.1 u.2) (fun (u : (Nat → Int32) × Int32) => zB (dC, dI) (zT kI kZ) (va_A [(p_pa, .inr (5, [.int pa_octets, .ref p_me, .ref (adK pa_row), .int pa_up, .int pa_aside, .ref p_pa_letters, .int pa_used])), (p_pa_letters, .inl (kI, pa_n, .inl pa_letters))] sz) [(p_pa, .inr (5, [.int pa_octets, .ref p_me, .ref (adK pa_row), .int pa_up, .int pa_aside, .ref p_pa_letters, .int u.2])), (p_pa_letters, .inl (kI, pa_n, .inl u.1))]) (va_A [(p_pa, .inr (5, [.int pa_octets, .ref p_me, .ref (adK pa_row), .int pa_up, .int pa_aside, .ref p_pa_letters, .int pa_used])), (p_pa_letters, .inl (kI, pa_n, .inl pa_letters))] sz)) 0 0 (va_A [(p_pa, .inr (5, [.int pa_octets, .ref p_me, .ref (adK pa_row), .int pa_up, .int pa_aside, .ref p_pa_letters, .int pa_used])), (p_pa_letters, .inl (kI, pa_n, .inl pa_letters))] sz) := by
  refine zz_ofvG (cc := cX5_addCode) (maxL := 3) (by decide) rfl (Nat.le_of_ble_eq_true rfl) hz ?_
  intro p e s m args below meth c A Q ls hx hb hml hown hts hK hA hG hAA hR hP hD hS hl
  have hown : s.vm.findClass RX5 = some m.cls := hown
  have hl : lv_has ls 3 [(0, .ref p_pa), (1, .int a1)] := hl
  have hi_X5 : ∀ w ∈ wsX50, w ∈ wsX5_addCode := fun _ h => (List.mem_cons_of_mem _ (List.mem_append_right _ h))
  unfold wp_X5_addCode at h
  obtain ⟨H, eH⟩ : ∃ H, H = s.heap := ⟨_, rfl⟩
  obtain ⟨locs, eL⟩ : ∃ L : List Loc, L = [] := ⟨_, rfl⟩
  rw [← eL]
  have hS : va_S A s.heap s.heap locs := by rw [eL]; exact hS
  suffices hgo : ∀ H : Heap, va_P (dC, dI) vwCl [(p_pa, .inr (5, [.int pa_octets, .ref p_me, .ref (adK pa_row), .int pa_up, .int pa_aside, .ref p_pa_letters, .int pa_used])), (p_pa_letters, .inl (kI, pa_n, .inl pa_letters))] H → va_S A s.heap H locs → W p l e rmX5_addCode s m args below meth c H locs 0 0 Q (F0 m 0 ls []) from hgo _ hP hS
  clear hP hS eH H eL
  intro H hP hS
  refine lv_iload_n hx hb dX5_addCode_0 rfl (lv_at hl 1 rfl) ?_
  refine lv_bipush (v := 32) hx hb dX5_addCode_1 (by decide) ?_
  refine lv_icmp_ne (tgt := 14) hx hb dX5_addCode_3 (by decide) (fun c_ => ?_) (fun c_ => ?_)
  · have h := h.1 c_
    refine lv_iload_n hx hb dX5_addCode_14 rfl (lv_at hl 1 rfl) ?_
    refine lv_bipush (v := 97) hx hb dX5_addCode_15 (by decide) ?_
    have h := h (∀ (H : Heap) (locs : List Loc), va_P (dC, dI) vwCl [(p_pa, .inr (5, [.int pa_octets, .ref p_me, .ref (adK pa_row), .int pa_up, .int pa_aside, .ref p_pa_letters, .int pa_used])), (p_pa_letters, .inl (kI, pa_n, .inl pa_letters))] H → va_D A [(p_pa, .inr (5, [.int pa_octets, .ref p_me, .ref (adK pa_row), .int pa_up, .int pa_aside, .ref p_pa_letters, .int pa_used])), (p_pa_letters, .inl (kI, pa_n, .inl pa_letters))] → va_S A s.heap H locs → ∀ ls : Array Slot, lv_has ls 3 [(0, .ref p_pa), (1, .int a1)] → W p l e rmX5_addCode s m args below meth c H locs 0 0 Q (F0 m 40 ls [])) (by
      clear h hP hD hS hl
      intro h H locs hP hD hS ls hl
      refine lv_iload_n hx hb dX5_addCode_40 rfl (lv_at hl 1 rfl) ?_
      refine lv_bipush (v := 65) hx hb dX5_addCode_41 (by decide) ?_
      have h := h (∀ (H : Heap) (locs : List Loc), va_P (dC, dI) vwCl [(p_pa, .inr (5, [.int pa_octets, .ref p_me, .ref (adK pa_row), .int pa_up, .int pa_aside, .ref p_pa_letters, .int pa_used])), (p_pa_letters, .inl (kI, pa_n, .inl pa_letters))] H → va_D A [(p_pa, .inr (5, [.int pa_octets, .ref p_me, .ref (adK pa_row), .int pa_up, .int pa_aside, .ref p_pa_letters, .int pa_used])), (p_pa_letters, .inl (kI, pa_n, .inl pa_letters))] → va_S A s.heap H locs → ∀ ls : Array Slot, lv_has ls 3 [(0, .ref p_pa), (1, .int a1)] → W p l e rmX5_addCode s m args below meth c H locs 0 0 Q (F0 m 74 ls [])) (by
        clear h hP hD hS hl
        intro h H locs hP hD hS ls hl
        refine lv_aload_n hx hb dX5_addCode_74 rfl (lv_at hl 0 rfl) ?_
        refine lv_aload_n hx hb dX5_addCode_75 rfl (lv_at hl 0 rfl) ?_
        refine va_get (D := (dC, dI)) (ci := 5) (v := .int pa_aside) (C := RX5) (T := TX5) (N := 7) hx hb hts hi_X5 hown hK hP 0 rfl rfl 4 (by decide) (hts (.fieldLink RX5 27 "ZInput$Packer" "aside" "I") (List.mem_cons_of_mem _ (List.mem_append_left _ (List.mem_append_left _ (List.mem_of_getElem? (i := 1) rfl))))) (fun _ h9 => h9) rfl dX5_addCode_76 ?_
        refine zz_Vv (As := [.int pa_aside]) (rest := []) (wr := []) ⟨hx, hb, hml, hown, hts⟩ (cwV 1 hts gX5_addCode_X5_addLetter rfl rfl rfl (by decide +kernel) ⟨Nat.le_of_ble_eq_true rfl, Nat.le_of_ble_eq_true rfl⟩) hK hP hD hS hA (c_X5_addLetter l dC dI kI kZ H.size adK p_pa p_me p_pa_letters pa_octets pa_row pa_up pa_aside pa_letters pa_used pa_n pa_aside _ h) [0, 1] [] rfl rfl rfl rfl (by decide) 0 rfl rfl rfl rfl hl.1 (Nat.le_of_ble_eq_true rfl) dX5_addCode_79 (Nat.le_refl _) (Nat.le_refl _) (fun u_1 H locs h hP hD hS => ?_)
        obtain ⟨pa_letters_1, pa_used_1⟩ := u_1
        have hP : va_P (dC, dI) vwCl [(p_pa, .inr (5, [.int pa_octets, .ref p_me, .ref (adK pa_row), .int pa_up, .int pa_aside, .ref p_pa_letters, .int pa_used_1])), (p_pa_letters, .inl (kI, pa_n, .inl pa_letters_1))] H := hP.sub [0, 1] rfl
        have hD : va_D A [(p_pa, .inr (5, [.int pa_octets, .ref p_me, .ref (adK pa_row), .int pa_up, .int pa_aside, .ref p_pa_letters, .int pa_used_1])), (p_pa_letters, .inl (kI, pa_n, .inl pa_letters_1))] := hD.sub [0, 1] rfl rfl
        refine lv_aload_n hx hb dX5_addCode_82 rfl (lv_at hl 0 rfl) ?_
        refine va_get (D := (dC, dI)) (ci := 5) (v := .ref (adK pa_row)) (C := RX5) (T := TX5) (N := 7) hx hb hts hi_X5 hown hK hP 0 rfl rfl 2 (by decide) (hts (.fieldLink RX5 19 "ZInput$Packer" "row" "Ljava/lang/String;") (List.mem_cons_of_mem _ (List.mem_append_left _ (List.mem_append_left _ (List.mem_of_getElem? (i := 2) rfl))))) (fun _ h9 => h9) rfl dX5_addCode_83 ?_
        refine lv_iload_n hx hb dX5_addCode_86 rfl (lv_at hl 1 rfl) ?_
        refine lv_i2c hx hb dX5_addCode_87 rfl ?_
        have hk := h.1
        have h := h.2
        refine zz_ViS (As := [.int (((Int32.toUInt32 a1) % 65536).toInt32)]) (rest := []) (wr := [(p_pa, .inr (5, [.int pa_octets, .ref p_me, .ref (adK pa_row), .int pa_up, .int pa_aside, .ref p_pa_letters, .int pa_used_1])), (p_pa_letters, .inl (kI, pa_n, .inl pa_letters_1))]) ⟨hx, hb, hml, hown, hts⟩ (cwV 1 hts gX5_addCode_J0_indexOf_0f7a4 rfl rfl rfl (by decide +kernel) ⟨Nat.le_of_ble_eq_true rfl, Nat.le_of_ble_eq_true rfl⟩) hK hP hD hS hA hG hAA (c_J0_indexOf_0f7a4 l dC dI kI kZ H.size A0 adK adV (fun q hq => hAA q (hA q (Nat.le_trans hS.1 hq))) pa_row hk (((Int32.toUInt32 a1) % 65536).toInt32) _ h) [] [0, 1] rfl rfl rfl rfl (by decide) hk rfl rfl rfl rfl hl.1 (Nat.le_of_ble_eq_true rfl) dX5_addCode_88 (Nat.le_refl _) (Nat.le_refl _) (fun r_1 u_2 H locs h hP hD hS => ?_)
        have hP : va_P (dC, dI) vwCl [(p_pa, .inr (5, [.int pa_octets, .ref p_me, .ref (adK pa_row), .int pa_up, .int pa_aside, .ref p_pa_letters, .int pa_used_1])), (p_pa_letters, .inl (kI, pa_n, .inl pa_letters_1))] H := hP.sub [0, 1] rfl
        have hD : va_D A [(p_pa, .inr (5, [.int pa_octets, .ref p_me, .ref (adK pa_row), .int pa_up, .int pa_aside, .ref p_pa_letters, .int pa_used_1])), (p_pa_letters, .inl (kI, pa_n, .inl pa_letters_1))] := hD.sub [0, 1] rfl rfl
        refine lv_istore_n (lv' := [(2, .int r_1), (0, .ref p_pa), (1, .int a1)]) hx hb dX5_addCode_91 rfl hl (by decide) rfl (fun ls hl => ?_)
        refine lv_iload_n hx hb dX5_addCode_92 rfl (lv_at hl 0 rfl) ?_
        refine lv_if_lt (tgt := 107) hx hb dX5_addCode_93 (by decide) (fun c_ => ?_) (fun c_ => ?_)
        · have h := h.1 c_
          refine lv_aload_n hx hb dX5_addCode_107 rfl (lv_at hl 1 rfl) ?_
          refine lv_bipush (v := 6) hx hb dX5_addCode_108 (by decide) ?_
          refine zz_Vv (As := [.int 6]) (rest := []) (wr := []) ⟨hx, hb, hml, hown, hts⟩ (cwV 1 hts gX5_addCode_X5_addLetter rfl rfl rfl (by decide +kernel) ⟨Nat.le_of_ble_eq_true rfl, Nat.le_of_ble_eq_true rfl⟩) hK hP hD hS hA (c_X5_addLetter l dC dI kI kZ H.size adK p_pa p_me p_pa_letters pa_octets pa_row pa_up pa_aside pa_letters_1 pa_used_1 pa_n 6 _ h) [0, 1] [] rfl rfl rfl rfl (by decide) 0 rfl rfl rfl rfl hl.1 (Nat.le_of_ble_eq_true rfl) dX5_addCode_110 (Nat.le_refl _) (Nat.le_refl _) (fun u_3 H locs h hP hD hS => ?_)
          obtain ⟨pa_letters_2, pa_used_2⟩ := u_3
          have hP : va_P (dC, dI) vwCl [(p_pa, .inr (5, [.int pa_octets, .ref p_me, .ref (adK pa_row), .int pa_up, .int pa_aside, .ref p_pa_letters, .int pa_used_2])), (p_pa_letters, .inl (kI, pa_n, .inl pa_letters_2))] H := hP.sub [0, 1] rfl
          have hD : va_D A [(p_pa, .inr (5, [.int pa_octets, .ref p_me, .ref (adK pa_row), .int pa_up, .int pa_aside, .ref p_pa_letters, .int pa_used_2])), (p_pa_letters, .inl (kI, pa_n, .inl pa_letters_2))] := hD.sub [0, 1] rfl rfl
          refine lv_aload_n hx hb dX5_addCode_113 rfl (lv_at hl 1 rfl) ?_
          refine lv_iload_n hx hb dX5_addCode_114 rfl (lv_at hl 2 rfl) ?_
          refine lv_bipush (v := 32) hx hb dX5_addCode_115 (by decide) ?_
          refine lv_idiv hx hb dX5_addCode_117 (by decide) ?_
          refine zz_Vv (As := [.int (a1 / 32)]) (rest := []) (wr := []) ⟨hx, hb, hml, hown, hts⟩ (cwV 1 hts gX5_addCode_X5_addLetter rfl rfl rfl (by decide +kernel) ⟨Nat.le_of_ble_eq_true rfl, Nat.le_of_ble_eq_true rfl⟩) hK hP hD hS hA (c_X5_addLetter l dC dI kI kZ H.size adK p_pa p_me p_pa_letters pa_octets pa_row pa_up pa_aside pa_letters_2 pa_used_2 pa_n (a1 / 32) _ h) [0, 1] [] rfl rfl rfl rfl (by decide) 0 rfl rfl rfl rfl hl.1 (Nat.le_of_ble_eq_true rfl) dX5_addCode_118 (Nat.le_refl _) (Nat.le_refl _) (fun u_4 H locs h hP hD hS => ?_)
          obtain ⟨pa_letters_3, pa_used_3⟩ := u_4
          have hP : va_P (dC, dI) vwCl [(p_pa, .inr (5, [.int pa_octets, .ref p_me, .ref (adK pa_row), .int pa_up, .int pa_aside, .ref p_pa_letters, .int pa_used_3])), (p_pa_letters, .inl (kI, pa_n, .inl pa_letters_3))] H := hP.sub [0, 1] rfl
          have hD : va_D A [(p_pa, .inr (5, [.int pa_octets, .ref p_me, .ref (adK pa_row), .int pa_up, .int pa_aside, .ref p_pa_letters, .int pa_used_3])), (p_pa_letters, .inl (kI, pa_n, .inl pa_letters_3))] := hD.sub [0, 1] rfl rfl
          refine lv_aload_n hx hb dX5_addCode_121 rfl (lv_at hl 1 rfl) ?_
          refine lv_iload_n hx hb dX5_addCode_122 rfl (lv_at hl 2 rfl) ?_
          refine lv_bipush (v := 32) hx hb dX5_addCode_123 (by decide) ?_
          refine lv_irem hx hb dX5_addCode_125 (by decide) ?_
          refine zz_Vv (As := [.int (a1 - a1 / 32 * 32)]) (rest := []) (wr := []) ⟨hx, hb, hml, hown, hts⟩ (cwV 1 hts gX5_addCode_X5_addLetter rfl rfl rfl (by decide +kernel) ⟨Nat.le_of_ble_eq_true rfl, Nat.le_of_ble_eq_true rfl⟩) hK hP hD hS hA (c_X5_addLetter l dC dI kI kZ H.size adK p_pa p_me p_pa_letters pa_octets pa_row pa_up pa_aside pa_letters_3 pa_used_3 pa_n (a1 - a1 / 32 * 32) _ h) [0, 1] [] rfl rfl rfl rfl (by decide) 0 rfl rfl rfl rfl hl.1 (Nat.le_of_ble_eq_true rfl) dX5_addCode_126 (Nat.le_refl _) (Nat.le_refl _) (fun u_5 H locs h hP hD hS => ?_)
          obtain ⟨pa_letters_4, pa_used_4⟩ := u_5
          have hP : va_P (dC, dI) vwCl [(p_pa, .inr (5, [.int pa_octets, .ref p_me, .ref (adK pa_row), .int pa_up, .int pa_aside, .ref p_pa_letters, .int pa_used_4])), (p_pa_letters, .inl (kI, pa_n, .inl pa_letters_4))] H := hP.sub [0, 1] rfl
          have hD : va_D A [(p_pa, .inr (5, [.int pa_octets, .ref p_me, .ref (adK pa_row), .int pa_up, .int pa_aside, .ref p_pa_letters, .int pa_used_4])), (p_pa_letters, .inl (kI, pa_n, .inl pa_letters_4))] := hD.sub [0, 1] rfl rfl
          exact hR (pa_letters_4, pa_used_4) H locs h hP hD hS _ ls dX5_addCode_129
        · have h := h.2 c_
          refine lv_aload_n hx hb dX5_addCode_96 rfl (lv_at hl 1 rfl) ?_
          refine lv_iload_n hx hb dX5_addCode_97 rfl (lv_at hl 0 rfl) ?_
          refine lv_bipush (v := 7) hx hb dX5_addCode_98 (by decide) ?_
          refine lv_iadd hx hb dX5_addCode_100 ?_
          refine zz_Vv (As := [.int (r_1 + 7)]) (rest := []) (wr := []) ⟨hx, hb, hml, hown, hts⟩ (cwV 1 hts gX5_addCode_X5_addLetter rfl rfl rfl (by decide +kernel) ⟨Nat.le_of_ble_eq_true rfl, Nat.le_of_ble_eq_true rfl⟩) hK hP hD hS hA (c_X5_addLetter l dC dI kI kZ H.size adK p_pa p_me p_pa_letters pa_octets pa_row pa_up pa_aside pa_letters_1 pa_used_1 pa_n (r_1 + 7) _ h) [0, 1] [] rfl rfl rfl rfl (by decide) 0 rfl rfl rfl rfl hl.1 (Nat.le_of_ble_eq_true rfl) dX5_addCode_101 (Nat.le_refl _) (Nat.le_refl _) (fun u_6 H locs h hP hD hS => ?_)
          obtain ⟨pa_letters_5, pa_used_5⟩ := u_6
          have hP : va_P (dC, dI) vwCl [(p_pa, .inr (5, [.int pa_octets, .ref p_me, .ref (adK pa_row), .int pa_up, .int pa_aside, .ref p_pa_letters, .int pa_used_5])), (p_pa_letters, .inl (kI, pa_n, .inl pa_letters_5))] H := hP.sub [0, 1] rfl
          have hD : va_D A [(p_pa, .inr (5, [.int pa_octets, .ref p_me, .ref (adK pa_row), .int pa_up, .int pa_aside, .ref p_pa_letters, .int pa_used_5])), (p_pa_letters, .inl (kI, pa_n, .inl pa_letters_5))] := hD.sub [0, 1] rfl rfl
          refine lv_goto (tgt := 129) hx hb dX5_addCode_104 (by decide) ?_
          exact hR (pa_letters_5, pa_used_5) H locs h hP hD hS _ ls dX5_addCode_129)
      refine lv_icmp_lt (tgt := 74) hx hb dX5_addCode_43 (by decide) (fun c_ => ?_) (fun c_ => ?_)
      · have h := h.1 c_
        exact h H locs hP hD hS ls (lv_sub hl [0, 1] rfl)
      · have h := h.2 c_
        refine lv_iload_n hx hb dX5_addCode_46 rfl (lv_at hl 1 rfl) ?_
        refine lv_bipush (v := 90) hx hb dX5_addCode_47 (by decide) ?_
        refine lv_icmp_gt (tgt := 74) hx hb dX5_addCode_49 (by decide) (fun c_ => ?_) (fun c_ => ?_)
        · have h := h.1 c_
          exact h H locs hP hD hS ls (lv_sub hl [0, 1] rfl)
        · have h := h.2 c_
          refine lv_aload_n hx hb dX5_addCode_52 rfl (lv_at hl 0 rfl) ?_
          refine lv_aload_n hx hb dX5_addCode_53 rfl (lv_at hl 0 rfl) ?_
          refine va_get (D := (dC, dI)) (ci := 5) (v := .int pa_up) (C := RX5) (T := TX5) (N := 7) hx hb hts hi_X5 hown hK hP 0 rfl rfl 3 (by decide) (hts (.fieldLink RX5 23 "ZInput$Packer" "up" "I") (List.mem_cons_of_mem _ (List.mem_append_left _ (List.mem_append_left _ (List.mem_of_getElem? (i := 0) rfl))))) (fun _ h9 => h9) rfl dX5_addCode_54 ?_
          refine zz_Vv (As := [.int pa_up]) (rest := []) (wr := []) ⟨hx, hb, hml, hown, hts⟩ (cwV 1 hts gX5_addCode_X5_addLetter rfl rfl rfl (by decide +kernel) ⟨Nat.le_of_ble_eq_true rfl, Nat.le_of_ble_eq_true rfl⟩) hK hP hD hS hA (c_X5_addLetter l dC dI kI kZ H.size adK p_pa p_me p_pa_letters pa_octets pa_row pa_up pa_aside pa_letters pa_used pa_n pa_up _ h) [0, 1] [] rfl rfl rfl rfl (by decide) 0 rfl rfl rfl rfl hl.1 (Nat.le_of_ble_eq_true rfl) dX5_addCode_57 (Nat.le_refl _) (Nat.le_refl _) (fun u_7 H locs h hP hD hS => ?_)
          obtain ⟨pa_letters_6, pa_used_6⟩ := u_7
          have hP : va_P (dC, dI) vwCl [(p_pa, .inr (5, [.int pa_octets, .ref p_me, .ref (adK pa_row), .int pa_up, .int pa_aside, .ref p_pa_letters, .int pa_used_6])), (p_pa_letters, .inl (kI, pa_n, .inl pa_letters_6))] H := hP.sub [0, 1] rfl
          have hD : va_D A [(p_pa, .inr (5, [.int pa_octets, .ref p_me, .ref (adK pa_row), .int pa_up, .int pa_aside, .ref p_pa_letters, .int pa_used_6])), (p_pa_letters, .inl (kI, pa_n, .inl pa_letters_6))] := hD.sub [0, 1] rfl rfl
          refine lv_aload_n hx hb dX5_addCode_60 rfl (lv_at hl 0 rfl) ?_
          refine lv_iload_n hx hb dX5_addCode_61 rfl (lv_at hl 1 rfl) ?_
          refine lv_bipush (v := 65) hx hb dX5_addCode_62 (by decide) ?_
          refine lv_isub hx hb dX5_addCode_64 ?_
          refine lv_bipush (v := 6) hx hb dX5_addCode_65 (by decide) ?_
          refine lv_iadd hx hb dX5_addCode_67 ?_
          refine zz_Vv (As := [.int ((a1 - 65) + 6)]) (rest := []) (wr := []) ⟨hx, hb, hml, hown, hts⟩ (cwV 1 hts gX5_addCode_X5_addLetter rfl rfl rfl (by decide +kernel) ⟨Nat.le_of_ble_eq_true rfl, Nat.le_of_ble_eq_true rfl⟩) hK hP hD hS hA (c_X5_addLetter l dC dI kI kZ H.size adK p_pa p_me p_pa_letters pa_octets pa_row pa_up pa_aside pa_letters_6 pa_used_6 pa_n ((a1 - 65) + 6) _ h) [0, 1] [] rfl rfl rfl rfl (by decide) 0 rfl rfl rfl rfl hl.1 (Nat.le_of_ble_eq_true rfl) dX5_addCode_68 (Nat.le_refl _) (Nat.le_refl _) (fun u_8 H locs h hP hD hS => ?_)
          obtain ⟨pa_letters_7, pa_used_7⟩ := u_8
          have hP : va_P (dC, dI) vwCl [(p_pa, .inr (5, [.int pa_octets, .ref p_me, .ref (adK pa_row), .int pa_up, .int pa_aside, .ref p_pa_letters, .int pa_used_7])), (p_pa_letters, .inl (kI, pa_n, .inl pa_letters_7))] H := hP.sub [0, 1] rfl
          have hD : va_D A [(p_pa, .inr (5, [.int pa_octets, .ref p_me, .ref (adK pa_row), .int pa_up, .int pa_aside, .ref p_pa_letters, .int pa_used_7])), (p_pa_letters, .inl (kI, pa_n, .inl pa_letters_7))] := hD.sub [0, 1] rfl rfl
          refine lv_goto (tgt := 129) hx hb dX5_addCode_71 (by decide) ?_
          exact hR (pa_letters_7, pa_used_7) H locs h hP hD hS _ ls dX5_addCode_129)
    refine lv_icmp_lt (tgt := 40) hx hb dX5_addCode_17 (by decide) (fun c_ => ?_) (fun c_ => ?_)
    · have h := h.1 c_
      exact h H locs hP hD hS ls (lv_sub hl [0, 1] rfl)
    · have h := h.2 c_
      refine lv_iload_n hx hb dX5_addCode_20 rfl (lv_at hl 1 rfl) ?_
      refine lv_bipush (v := 122) hx hb dX5_addCode_21 (by decide) ?_
      refine lv_icmp_gt (tgt := 40) hx hb dX5_addCode_23 (by decide) (fun c_ => ?_) (fun c_ => ?_)
      · have h := h.1 c_
        exact h H locs hP hD hS ls (lv_sub hl [0, 1] rfl)
      · have h := h.2 c_
        refine lv_aload_n hx hb dX5_addCode_26 rfl (lv_at hl 0 rfl) ?_
        refine lv_iload_n hx hb dX5_addCode_27 rfl (lv_at hl 1 rfl) ?_
        refine lv_bipush (v := 97) hx hb dX5_addCode_28 (by decide) ?_
        refine lv_isub hx hb dX5_addCode_30 ?_
        refine lv_bipush (v := 6) hx hb dX5_addCode_31 (by decide) ?_
        refine lv_iadd hx hb dX5_addCode_33 ?_
        refine zz_Vv (As := [.int ((a1 - 97) + 6)]) (rest := []) (wr := []) ⟨hx, hb, hml, hown, hts⟩ (cwV 1 hts gX5_addCode_X5_addLetter rfl rfl rfl (by decide +kernel) ⟨Nat.le_of_ble_eq_true rfl, Nat.le_of_ble_eq_true rfl⟩) hK hP hD hS hA (c_X5_addLetter l dC dI kI kZ H.size adK p_pa p_me p_pa_letters pa_octets pa_row pa_up pa_aside pa_letters pa_used pa_n ((a1 - 97) + 6) _ h) [0, 1] [] rfl rfl rfl rfl (by decide) 0 rfl rfl rfl rfl hl.1 (Nat.le_of_ble_eq_true rfl) dX5_addCode_34 (Nat.le_refl _) (Nat.le_refl _) (fun u_9 H locs h hP hD hS => ?_)
        obtain ⟨pa_letters_8, pa_used_8⟩ := u_9
        have hP : va_P (dC, dI) vwCl [(p_pa, .inr (5, [.int pa_octets, .ref p_me, .ref (adK pa_row), .int pa_up, .int pa_aside, .ref p_pa_letters, .int pa_used_8])), (p_pa_letters, .inl (kI, pa_n, .inl pa_letters_8))] H := hP.sub [0, 1] rfl
        have hD : va_D A [(p_pa, .inr (5, [.int pa_octets, .ref p_me, .ref (adK pa_row), .int pa_up, .int pa_aside, .ref p_pa_letters, .int pa_used_8])), (p_pa_letters, .inl (kI, pa_n, .inl pa_letters_8))] := hD.sub [0, 1] rfl rfl
        refine lv_goto (tgt := 129) hx hb dX5_addCode_37 (by decide) ?_
        exact hR (pa_letters_8, pa_used_8) H locs h hP hD hS _ ls dX5_addCode_129
  · have h := h.2 c_
    refine lv_aload_n hx hb dX5_addCode_6 rfl (lv_at hl 0 rfl) ?_
    refine lv_iconst (v := 0) hx hb dX5_addCode_7 (by decide) ?_
    refine zz_Vv (As := [.int 0]) (rest := []) (wr := []) ⟨hx, hb, hml, hown, hts⟩ (cwV 1 hts gX5_addCode_X5_addLetter rfl rfl rfl (by decide +kernel) ⟨Nat.le_of_ble_eq_true rfl, Nat.le_of_ble_eq_true rfl⟩) hK hP hD hS hA (c_X5_addLetter l dC dI kI kZ H.size adK p_pa p_me p_pa_letters pa_octets pa_row pa_up pa_aside pa_letters pa_used pa_n 0 _ h) [0, 1] [] rfl rfl rfl rfl (by decide) 0 rfl rfl rfl rfl hl.1 (Nat.le_of_ble_eq_true rfl) dX5_addCode_8 (Nat.le_refl _) (Nat.le_refl _) (fun u_10 H locs h hP hD hS => ?_)
    obtain ⟨pa_letters_9, pa_used_9⟩ := u_10
    have hP : va_P (dC, dI) vwCl [(p_pa, .inr (5, [.int pa_octets, .ref p_me, .ref (adK pa_row), .int pa_up, .int pa_aside, .ref p_pa_letters, .int pa_used_9])), (p_pa_letters, .inl (kI, pa_n, .inl pa_letters_9))] H := hP.sub [0, 1] rfl
    have hD : va_D A [(p_pa, .inr (5, [.int pa_octets, .ref p_me, .ref (adK pa_row), .int pa_up, .int pa_aside, .ref p_pa_letters, .int pa_used_9])), (p_pa_letters, .inl (kI, pa_n, .inl pa_letters_9))] := hD.sub [0, 1] rfl rfl
    refine lv_goto (tgt := 129) hx hb dX5_addCode_11 (by decide) ?_
    exact hR (pa_letters_9, pa_used_9) H locs h hP hD hS _ ls dX5_addCode_129
def wp_X5_packed (me_octets : Nat → Int32) (pa_row : Nat) (pa_up : Int32) (pa_aside : Int32) (pa_letters : Nat → Int32) (pa_used : Int32) (pa_n : Nat) (a1 : Int32) (a2 : Int32) (K : Int64 → (Nat → Int32) → Int32 → Prop) : Prop :=
  ∀ L7 : Int32 → (Nat → Int32) → Int32 → Prop, (∀ (x3_1 : Int32) (pa_letters_1 : Nat → Int32) (pa_used_1 : Int32), (∀ J44 : Prop, ((∀ L49 : Int32 → (Nat → Int32) → Prop, (∀ (x3_2 : Int32) (pa_letters_2 : Nat → Int32), ((((nI pa_n) ≤ x3_2) → (∀ L76 : Int64 → Int32 → Prop, (∀ (x3_3 : Int64) (x5_1 : Int32), ((((nI pa_n) ≤ x5_1) → (K x3_3 pa_letters_2 pa_used_1)) ∧ ((¬ (nI pa_n) ≤ x5_1) → (∀ J118 : Int64 → Prop, (∀ (x3_4 : Int64), (vp_in x5_1 pa_n ∧ (∀ v_1 : Int64, v_1 = ((x3_4 * 32) + (Int32.toInt64 (pa_letters_2 (Int32.toNatClampNeg x5_1)))) → (L76 v_1 (x5_1 + 1)))) → J118 x3_4) → (((¬ (x5_1 - x5_1 / 3 * 3) = 0) → (J118 x3_3)) ∧ (((x5_1 - x5_1 / 3 * 3) = 0) → (∀ J115 : Int32 → Int64 → Prop, (∀ (y_1 : Int32) (y_2 : Int64), (∀ v_2 : Int64, v_2 = (y_2 + (Int32.toInt64 y_1)) → (J118 v_2)) → J115 y_1 y_2) → (((¬ x5_1 = ((nI pa_n) - 3)) → (J115 0 (x3_3 * 2))) ∧ ((x5_1 = ((nI pa_n) - 3)) → (J115 1 (x3_3 * 2)))))))))) → L76 x3_3 x5_1) → L76 0 0)) ∧ ((¬ (nI pa_n) ≤ x3_2) → (vp_in x3_2 pa_n ∧ (L49 (x3_2 + 1) (upd pa_letters_2 (Int32.toNatClampNeg x3_2) 5))))) → L49 x3_2 pa_letters_2) → L49 pa_used_1 pa_letters_1) → J44) → (((a2 ≤ x3_1) → (J44)) ∧ ((¬ a2 ≤ x3_1) → ((((nI pa_n) ≤ pa_used_1) → (J44)) ∧ ((¬ (nI pa_n) ≤ pa_used_1) → (wp_X4_octet me_octets (a1 + x3_1) (fun (r_1 : Int32) => wp_X5_addCode pa_row pa_up pa_aside pa_letters_1 pa_used_1 pa_n r_1 (fun (pa_letters_3 : Nat → Int32) (pa_used_2 : Int32) => L7 (x3_1 + 1) pa_letters_3 pa_used_2)))))))) → L7 x3_1 pa_letters_1 pa_used_1) → L7 0 pa_letters 0
abbrev rmX5_packed : Room := { frames := 5, cells := 0, slots := 0, locals := 113 }
set_option maxHeartbeats 4000000 in
set_option maxRecDepth 100000 in
theorem c_X5_packed (l : Launch) (dC : Nat → ClassId) (dI : Nat → Nat → Nat) (kI kZ : ClassId) (sz : Nat) (A0 : Nat → Prop) (adK adV : Nat → Nat) (hz : ∀ q, sz ≤ q → A0 q) (p_me : Nat) (p_me_octets : Nat) (p_pa : Nat) (p_pa_letters : Nat) (pa_octets : Int32) (me_octets : Nat → Int32) (pa_row : Nat) (pa_up : Int32) (pa_aside : Int32) (pa_letters : Nat → Int32) (pa_used : Int32) (pa_n : Nat) (a1 : Int32) (a2 : Int32) (K : Int64 → (Nat → Int32) → Int32 → Prop) (h : wp_X5_packed me_octets pa_row pa_up pa_aside pa_letters pa_used pa_n a1 a2 K) : Met l yX5_packed wsX5_packed rmX5_packed (va_Pc [.ref p_pa, .int a1, .int a2] (zPG (dC, dI) (zT kI kZ) sz A0 adK adV [(p_me, .inr (4, [.ref p_me_octets])), (p_me_octets, .inl (kI, 4096, .inl me_octets)), (p_pa, .inr (5, [.int pa_octets, .ref p_me, .ref (adK pa_row), .int pa_up, .int pa_aside, .ref p_pa_letters, .int pa_used])), (p_pa_letters, .inl (kI, pa_n, .inl pa_letters))])) (va_Ql (fun (r : Int64) (u : (Nat → Int32) × Int32) => K r u.1 u.2) (fun (u : (Nat → Int32) × Int32) => zB (dC, dI) (zT kI kZ) (va_A [(p_me, .inr (4, [.ref p_me_octets])), (p_me_octets, .inl (kI, 4096, .inl me_octets)), (p_pa, .inr (5, [.int pa_octets, .ref p_me, .ref (adK pa_row), .int pa_up, .int pa_aside, .ref p_pa_letters, .int pa_used])), (p_pa_letters, .inl (kI, pa_n, .inl pa_letters))] sz) [(p_me, .inr (4, [.ref p_me_octets])), (p_me_octets, .inl (kI, 4096, .inl me_octets)), (p_pa, .inr (5, [.int pa_octets, .ref p_me, .ref (adK pa_row), .int pa_up, .int pa_aside, .ref p_pa_letters, .int u.2])), (p_pa_letters, .inl (kI, pa_n, .inl u.1))]) (va_A [(p_me, .inr (4, [.ref p_me_octets])), (p_me_octets, .inl (kI, 4096, .inl me_octets)), (p_pa, .inr (5, [.int pa_octets, .ref p_me, .ref (adK pa_row), .int pa_up, .int pa_aside, .ref p_pa_letters, .int pa_used])), (p_pa_letters, .inl (kI, pa_n, .inl pa_letters))] sz)) 0 0 (va_A [(p_me, .inr (4, [.ref p_me_octets])), (p_me_octets, .inl (kI, 4096, .inl me_octets)), (p_pa, .inr (5, [.int pa_octets, .ref p_me, .ref (adK pa_row), .int pa_up, .int pa_aside, .ref p_pa_letters, .int pa_used])), (p_pa_letters, .inl (kI, pa_n, .inl pa_letters))] sz) := by
  refine zz_oflG (cc := cX5_packed) (maxL := 6) (by decide) rfl (Nat.le_of_ble_eq_true rfl) hz ?_
  intro p e s m args below meth c A Q ls hx hb hml hown hts hK hA hG hAA hR hP hD hS hl
  have hown : s.vm.findClass RX5 = some m.cls := hown
  have hl : lv_has ls 6 [(0, .ref p_pa), (1, .int a1), (2, .int a2)] := hl
  have hi_X5 : ∀ w ∈ wsX50, w ∈ wsX5_packed := fun _ h => (List.mem_cons_of_mem _ (List.mem_append_left _ (List.mem_append_right _ h)))
  unfold wp_X5_packed at h
  obtain ⟨H, eH⟩ : ∃ H, H = s.heap := ⟨_, rfl⟩
  obtain ⟨locs, eL⟩ : ∃ L : List Loc, L = [] := ⟨_, rfl⟩
  rw [← eL]
  have hS : va_S A s.heap s.heap locs := by rw [eL]; exact hS
  suffices hgo : ∀ H : Heap, va_P (dC, dI) vwCl [(p_me, .inr (4, [.ref p_me_octets])), (p_me_octets, .inl (kI, 4096, .inl me_octets)), (p_pa, .inr (5, [.int pa_octets, .ref p_me, .ref (adK pa_row), .int pa_up, .int pa_aside, .ref p_pa_letters, .int pa_used])), (p_pa_letters, .inl (kI, pa_n, .inl pa_letters))] H → va_S A s.heap H locs → W p l e rmX5_packed s m args below meth c H locs 0 0 Q (F0 m 0 ls []) from hgo _ hP hS
  clear hP hS eH H eL
  intro H hP hS
  refine lv_aload_n hx hb dX5_packed_0 rfl (lv_at hl 0 rfl) ?_
  refine lv_iconst (v := 0) hx hb dX5_packed_1 (by decide) ?_
  refine va_put (D := (dC, dI)) (ci := 5) (v := .int 0) (ty := .int) (C := RX5) (T := TX5) (N := 7) hx hb hts hi_X5 tyX5 tyX5_ok nmX5 hown hK hP hD hS 2 rfl rfl 6 (by decide) (hts (.fieldLink RX5 37 "ZInput$Packer" "used" "I") (List.mem_cons_of_mem _ (List.mem_append_left _ (List.mem_append_left _ (List.mem_append_left _ (List.mem_of_getElem? (i := 0) rfl)))))) (fun _ h9 => h9) rfl (by decide +kernel) rfl rfl (Nat.le_of_ble_eq_true rfl) dX5_packed_2 (fun H locs hP hD hS => ?_)
  have hP : va_P (dC, dI) vwCl [(p_me, .inr (4, [.ref p_me_octets])), (p_me_octets, .inl (kI, 4096, .inl me_octets)), (p_pa, .inr (5, [.int pa_octets, .ref p_me, .ref (adK pa_row), .int pa_up, .int pa_aside, .ref p_pa_letters, .int 0])), (p_pa_letters, .inl (kI, pa_n, .inl pa_letters))] H := hP
  have hD : va_D A [(p_me, .inr (4, [.ref p_me_octets])), (p_me_octets, .inl (kI, 4096, .inl me_octets)), (p_pa, .inr (5, [.int pa_octets, .ref p_me, .ref (adK pa_row), .int pa_up, .int pa_aside, .ref p_pa_letters, .int 0])), (p_pa_letters, .inl (kI, pa_n, .inl pa_letters))] := hD
  refine lv_iconst (v := 0) hx hb dX5_packed_5 (by decide) ?_
  refine lv_istore_n (lv' := [(3, .int 0), (0, .ref p_pa), (1, .int a1), (2, .int a2)]) hx hb dX5_packed_6 rfl hl (by decide) rfl (fun ls hl => ?_)
  refine h (fun (x3_1 : Int32) (pa_letters_1 : Nat → Int32) (pa_used_1 : Int32) => ∀ (H : Heap) (locs : List Loc), va_P (dC, dI) vwCl [(p_me, .inr (4, [.ref p_me_octets])), (p_me_octets, .inl (kI, 4096, .inl me_octets)), (p_pa, .inr (5, [.int pa_octets, .ref p_me, .ref (adK pa_row), .int pa_up, .int pa_aside, .ref p_pa_letters, .int pa_used_1])), (p_pa_letters, .inl (kI, pa_n, .inl pa_letters_1))] H → va_D A [(p_me, .inr (4, [.ref p_me_octets])), (p_me_octets, .inl (kI, 4096, .inl me_octets)), (p_pa, .inr (5, [.int pa_octets, .ref p_me, .ref (adK pa_row), .int pa_up, .int pa_aside, .ref p_pa_letters, .int pa_used_1])), (p_pa_letters, .inl (kI, pa_n, .inl pa_letters_1))] → va_S A s.heap H locs → ∀ ls : Array Slot, lv_has ls 6 [(0, .ref p_pa), (1, .int a1), (2, .int a2), (3, .int x3_1)] → W p l e rmX5_packed s m args below meth c H locs 0 0 Q (F0 m 7 ls [])) ?_ H locs hP hD hS ls (lv_sub hl [1, 2, 3, 0] rfl)
  clear h hP hD hS hl
  intro x3_1 pa_letters_1 pa_used_1 h H locs hP hD hS ls hl
  refine lv_iload_n hx hb dX5_packed_7 rfl (lv_at hl 3 rfl) ?_
  refine lv_iload_n hx hb dX5_packed_8 rfl (lv_at hl 2 rfl) ?_
  have h := h (∀ (H : Heap) (locs : List Loc), va_P (dC, dI) vwCl [(p_me, .inr (4, [.ref p_me_octets])), (p_me_octets, .inl (kI, 4096, .inl me_octets)), (p_pa, .inr (5, [.int pa_octets, .ref p_me, .ref (adK pa_row), .int pa_up, .int pa_aside, .ref p_pa_letters, .int pa_used_1])), (p_pa_letters, .inl (kI, pa_n, .inl pa_letters_1))] H → va_D A [(p_me, .inr (4, [.ref p_me_octets])), (p_me_octets, .inl (kI, 4096, .inl me_octets)), (p_pa, .inr (5, [.int pa_octets, .ref p_me, .ref (adK pa_row), .int pa_up, .int pa_aside, .ref p_pa_letters, .int pa_used_1])), (p_pa_letters, .inl (kI, pa_n, .inl pa_letters_1))] → va_S A s.heap H locs → ∀ ls : Array Slot, lv_has ls 6 [(0, .ref p_pa)] → W p l e rmX5_packed s m args below meth c H locs 0 0 Q (F0 m 44 ls [])) (by
    clear h hP hD hS hl
    intro h H locs hP hD hS ls hl
    refine lv_aload_n hx hb dX5_packed_44 rfl (lv_at hl 0 rfl) ?_
    refine va_get (D := (dC, dI)) (ci := 5) (v := .int pa_used_1) (C := RX5) (T := TX5) (N := 7) hx hb hts hi_X5 hown hK hP 2 rfl rfl 6 (by decide) (hts (.fieldLink RX5 37 "ZInput$Packer" "used" "I") (List.mem_cons_of_mem _ (List.mem_append_left _ (List.mem_append_left _ (List.mem_append_left _ (List.mem_of_getElem? (i := 0) rfl)))))) (fun _ h9 => h9) rfl dX5_packed_45 ?_
    refine lv_istore_n (lv' := [(3, .int pa_used_1), (0, .ref p_pa)]) hx hb dX5_packed_48 rfl hl (by decide) rfl (fun ls hl => ?_)
    refine h (fun (x3_2 : Int32) (pa_letters_2 : Nat → Int32) => ∀ (H : Heap) (locs : List Loc), va_P (dC, dI) vwCl [(p_me, .inr (4, [.ref p_me_octets])), (p_me_octets, .inl (kI, 4096, .inl me_octets)), (p_pa, .inr (5, [.int pa_octets, .ref p_me, .ref (adK pa_row), .int pa_up, .int pa_aside, .ref p_pa_letters, .int pa_used_1])), (p_pa_letters, .inl (kI, pa_n, .inl pa_letters_2))] H → va_D A [(p_me, .inr (4, [.ref p_me_octets])), (p_me_octets, .inl (kI, 4096, .inl me_octets)), (p_pa, .inr (5, [.int pa_octets, .ref p_me, .ref (adK pa_row), .int pa_up, .int pa_aside, .ref p_pa_letters, .int pa_used_1])), (p_pa_letters, .inl (kI, pa_n, .inl pa_letters_2))] → va_S A s.heap H locs → ∀ ls : Array Slot, lv_has ls 6 [(0, .ref p_pa), (3, .int x3_2)] → W p l e rmX5_packed s m args below meth c H locs 0 0 Q (F0 m 49 ls [])) ?_ H locs hP hD hS ls (lv_sub hl [1, 0] rfl)
    clear h hP hD hS hl
    intro x3_2 pa_letters_2 h H locs hP hD hS ls hl
    refine lv_iload_n hx hb dX5_packed_49 rfl (lv_at hl 1 rfl) ?_
    refine lv_aload_n hx hb dX5_packed_50 rfl (lv_at hl 0 rfl) ?_
    refine va_get (D := (dC, dI)) (ci := 5) (v := .ref p_pa_letters) (C := RX5) (T := TX5) (N := 7) hx hb hts hi_X5 hown hK hP 2 rfl rfl 5 (by decide) (hts (.fieldLink RX5 30 "ZInput$Packer" "letters" "[I") (List.mem_cons_of_mem _ (List.mem_append_left _ (List.mem_append_left _ (List.mem_append_left _ (List.mem_of_getElem? (i := 1) rfl)))))) (fun _ h9 => h9) rfl dX5_packed_51 ?_
    refine va_alen (v := (nI pa_n)) hx hb hK hP 3 0 rfl rfl rfl dX5_packed_54 ?_
    refine lv_icmp_ge (tgt := 71) hx hb dX5_packed_55 (by decide) (fun c_ => ?_) (fun c_ => ?_)
    · have h := h.1 c_
      refine lv_lconst (v := 0) hx hb dX5_packed_71 (by decide) ?_
      refine lv_lstore_n (lv' := [(3, .long 0), (0, .ref p_pa)]) hx hb dX5_packed_72 rfl hl (by decide) rfl (fun ls hl => ?_)
      refine lv_iconst (v := 0) hx hb dX5_packed_73 (by decide) ?_
      refine lv_istore (lv' := [(5, .int 0), (3, .long 0), (0, .ref p_pa)]) hx hb dX5_packed_74 hl (by decide) rfl (fun ls hl => ?_)
      refine h (fun (x3_3 : Int64) (x5_1 : Int32) => ∀ (H : Heap) (locs : List Loc), va_P (dC, dI) vwCl [(p_me, .inr (4, [.ref p_me_octets])), (p_me_octets, .inl (kI, 4096, .inl me_octets)), (p_pa, .inr (5, [.int pa_octets, .ref p_me, .ref (adK pa_row), .int pa_up, .int pa_aside, .ref p_pa_letters, .int pa_used_1])), (p_pa_letters, .inl (kI, pa_n, .inl pa_letters_2))] H → va_D A [(p_me, .inr (4, [.ref p_me_octets])), (p_me_octets, .inl (kI, 4096, .inl me_octets)), (p_pa, .inr (5, [.int pa_octets, .ref p_me, .ref (adK pa_row), .int pa_up, .int pa_aside, .ref p_pa_letters, .int pa_used_1])), (p_pa_letters, .inl (kI, pa_n, .inl pa_letters_2))] → va_S A s.heap H locs → ∀ ls : Array Slot, lv_has ls 6 [(0, .ref p_pa), (3, .long x3_3), (5, .int x5_1)] → W p l e rmX5_packed s m args below meth c H locs 0 0 Q (F0 m 76 ls [])) ?_ H locs hP hD hS ls (lv_sub hl [2, 1, 0] rfl)
      clear h hP hD hS hl
      intro x3_3 x5_1 h H locs hP hD hS ls hl
      refine lv_iload hx hb dX5_packed_76 (lv_at hl 2 rfl) ?_
      refine lv_aload_n hx hb dX5_packed_78 rfl (lv_at hl 0 rfl) ?_
      refine va_get (D := (dC, dI)) (ci := 5) (v := .ref p_pa_letters) (C := RX5) (T := TX5) (N := 7) hx hb hts hi_X5 hown hK hP 2 rfl rfl 5 (by decide) (hts (.fieldLink RX5 30 "ZInput$Packer" "letters" "[I") (List.mem_cons_of_mem _ (List.mem_append_left _ (List.mem_append_left _ (List.mem_append_left _ (List.mem_of_getElem? (i := 1) rfl)))))) (fun _ h9 => h9) rfl dX5_packed_79 ?_
      refine va_alen (v := (nI pa_n)) hx hb hK hP 3 0 rfl rfl rfl dX5_packed_82 ?_
      refine lv_icmp_ge (tgt := 139) hx hb dX5_packed_83 (by decide) (fun c_ => ?_) (fun c_ => ?_)
      · have h := h.1 c_
        refine lv_lload_n hx hb dX5_packed_139 rfl (lv_at hl 1 rfl) ?_
        exact hR x3_3 (pa_letters_2, pa_used_1) H locs h hP hD hS _ ls dX5_packed_140
      · have h := h.2 c_
        refine lv_iload hx hb dX5_packed_86 (lv_at hl 2 rfl) ?_
        refine lv_iconst (v := 3) hx hb dX5_packed_88 (by decide) ?_
        refine lv_irem hx hb dX5_packed_89 (by decide) ?_
        have h := h (fun (x3_4 : Int64) => ∀ (H : Heap) (locs : List Loc), va_P (dC, dI) vwCl [(p_me, .inr (4, [.ref p_me_octets])), (p_me_octets, .inl (kI, 4096, .inl me_octets)), (p_pa, .inr (5, [.int pa_octets, .ref p_me, .ref (adK pa_row), .int pa_up, .int pa_aside, .ref p_pa_letters, .int pa_used_1])), (p_pa_letters, .inl (kI, pa_n, .inl pa_letters_2))] H → va_D A [(p_me, .inr (4, [.ref p_me_octets])), (p_me_octets, .inl (kI, 4096, .inl me_octets)), (p_pa, .inr (5, [.int pa_octets, .ref p_me, .ref (adK pa_row), .int pa_up, .int pa_aside, .ref p_pa_letters, .int pa_used_1])), (p_pa_letters, .inl (kI, pa_n, .inl pa_letters_2))] → va_S A s.heap H locs → ∀ ls : Array Slot, lv_has ls 6 [(0, .ref p_pa), (3, .long x3_4), (5, .int x5_1)] → W p l e rmX5_packed s m args below meth c H locs 0 0 Q (F0 m 118 ls [])) (by
          clear h hP hD hS hl
          intro x3_4 h H locs hP hD hS ls hl
          refine lv_lload_n hx hb dX5_packed_118 rfl (lv_at hl 1 rfl) ?_
          refine lv_ldc2 (v := 32) hx hb hown (hts (.constantLong RX5 52 (32)) (List.mem_cons_of_mem _ (List.mem_append_left _ (List.mem_append_left _ (List.mem_append_left _ (List.mem_of_getElem? (i := 4) rfl)))))) dX5_packed_119 ?_
          refine lv_lmul hx hb dX5_packed_122 ?_
          refine lv_aload_n hx hb dX5_packed_123 rfl (lv_at hl 0 rfl) ?_
          refine va_get (D := (dC, dI)) (ci := 5) (v := .ref p_pa_letters) (C := RX5) (T := TX5) (N := 7) hx hb hts hi_X5 hown hK hP 2 rfl rfl 5 (by decide) (hts (.fieldLink RX5 30 "ZInput$Packer" "letters" "[I") (List.mem_cons_of_mem _ (List.mem_append_left _ (List.mem_append_left _ (List.mem_append_left _ (List.mem_of_getElem? (i := 1) rfl)))))) (fun _ h9 => h9) rfl dX5_packed_124 ?_
          refine lv_iload hx hb dX5_packed_127 (lv_at hl 2 rfl) ?_
          have hi := h.1
          have h := h.2
          refine va_iald hx hb hK hP 3 0 rfl rfl hi dX5_packed_129 ?_
          refine lv_i2l hx hb dX5_packed_130 rfl ?_
          refine lv_ladd hx hb dX5_packed_131 ?_
          refine lv_topl (fun v_1 ev_1 => ?_)
          have h := h v_1 ev_1
          refine lv_lstore_n (lv' := [(3, .long v_1), (0, .ref p_pa), (5, .int x5_1)]) hx hb dX5_packed_132 rfl hl (by decide) rfl (fun ls hl => ?_)
          refine lv_iinc (v := (x5_1 + 1)) (lv' := [(5, .int (x5_1 + 1)), (3, .long v_1), (0, .ref p_pa)]) hx hb dX5_packed_133 hl (k := 2) rfl rfl (by decide) rfl (fun ls hl => ?_)
          refine lv_goto (tgt := 76) hx hb dX5_packed_136 (by decide) ?_
          exact h H locs hP hD hS ls (lv_sub hl [2, 1, 0] rfl))
        refine lv_if_ne (tgt := 118) hx hb dX5_packed_90 (by decide) (fun c_ => ?_) (fun c_ => ?_)
        · have h := h.1 c_
          exact h H locs hP hD hS ls (lv_sub hl [0, 1, 2] rfl)
        · have h := h.2 c_
          refine lv_lload_n hx hb dX5_packed_93 rfl (lv_at hl 1 rfl) ?_
          refine lv_ldc2 (v := 2) hx hb hown (hts (.constantLong RX5 50 (2)) (List.mem_cons_of_mem _ (List.mem_append_left _ (List.mem_append_left _ (List.mem_append_left _ (List.mem_of_getElem? (i := 3) rfl)))))) dX5_packed_94 ?_
          refine lv_lmul hx hb dX5_packed_97 ?_
          refine lv_iload hx hb dX5_packed_98 (lv_at hl 2 rfl) ?_
          refine lv_aload_n hx hb dX5_packed_100 rfl (lv_at hl 0 rfl) ?_
          refine va_get (D := (dC, dI)) (ci := 5) (v := .ref p_pa_letters) (C := RX5) (T := TX5) (N := 7) hx hb hts hi_X5 hown hK hP 2 rfl rfl 5 (by decide) (hts (.fieldLink RX5 30 "ZInput$Packer" "letters" "[I") (List.mem_cons_of_mem _ (List.mem_append_left _ (List.mem_append_left _ (List.mem_append_left _ (List.mem_of_getElem? (i := 1) rfl)))))) (fun _ h9 => h9) rfl dX5_packed_101 ?_
          refine va_alen (v := (nI pa_n)) hx hb hK hP 3 0 rfl rfl rfl dX5_packed_104 ?_
          refine lv_iconst (v := 3) hx hb dX5_packed_105 (by decide) ?_
          refine lv_isub hx hb dX5_packed_106 ?_
          have h := h (fun (y_1 : Int32) (y_2 : Int64) => ∀ (H : Heap) (locs : List Loc), va_P (dC, dI) vwCl [(p_me, .inr (4, [.ref p_me_octets])), (p_me_octets, .inl (kI, 4096, .inl me_octets)), (p_pa, .inr (5, [.int pa_octets, .ref p_me, .ref (adK pa_row), .int pa_up, .int pa_aside, .ref p_pa_letters, .int pa_used_1])), (p_pa_letters, .inl (kI, pa_n, .inl pa_letters_2))] H → va_D A [(p_me, .inr (4, [.ref p_me_octets])), (p_me_octets, .inl (kI, 4096, .inl me_octets)), (p_pa, .inr (5, [.int pa_octets, .ref p_me, .ref (adK pa_row), .int pa_up, .int pa_aside, .ref p_pa_letters, .int pa_used_1])), (p_pa_letters, .inl (kI, pa_n, .inl pa_letters_2))] → va_S A s.heap H locs → ∀ ls : Array Slot, lv_has ls 6 [(0, .ref p_pa), (5, .int x5_1)] → W p l e rmX5_packed s m args below meth c H locs 0 0 Q (F0 m 115 ls [.int y_1, .long y_2])) (by
            clear h hP hD hS hl
            intro y_1 y_2 h H locs hP hD hS ls hl
            refine lv_i2l hx hb dX5_packed_115 rfl ?_
            refine lv_ladd hx hb dX5_packed_116 ?_
            refine lv_topl (fun v_2 ev_2 => ?_)
            have h := h v_2 ev_2
            refine lv_lstore_n (lv' := [(3, .long v_2), (0, .ref p_pa), (5, .int x5_1)]) hx hb dX5_packed_117 rfl hl (by decide) rfl (fun ls hl => ?_)
            exact h H locs hP hD hS ls (lv_sub hl [1, 0, 2] rfl))
          refine lv_icmp_ne (tgt := 114) hx hb dX5_packed_107 (by decide) (fun c_ => ?_) (fun c_ => ?_)
          · have h := h.1 c_
            refine lv_iconst (v := 0) hx hb dX5_packed_114 (by decide) ?_
            exact h H locs hP hD hS ls (lv_sub hl [0, 2] rfl)
          · have h := h.2 c_
            refine lv_iconst (v := 1) hx hb dX5_packed_110 (by decide) ?_
            refine lv_goto (tgt := 115) hx hb dX5_packed_111 (by decide) ?_
            exact h H locs hP hD hS ls (lv_sub hl [0, 2] rfl)
    · have h := h.2 c_
      refine lv_aload_n hx hb dX5_packed_58 rfl (lv_at hl 0 rfl) ?_
      refine va_get (D := (dC, dI)) (ci := 5) (v := .ref p_pa_letters) (C := RX5) (T := TX5) (N := 7) hx hb hts hi_X5 hown hK hP 2 rfl rfl 5 (by decide) (hts (.fieldLink RX5 30 "ZInput$Packer" "letters" "[I") (List.mem_cons_of_mem _ (List.mem_append_left _ (List.mem_append_left _ (List.mem_append_left _ (List.mem_of_getElem? (i := 1) rfl)))))) (fun _ h9 => h9) rfl dX5_packed_59 ?_
      refine lv_iload_n hx hb dX5_packed_62 rfl (lv_at hl 1 rfl) ?_
      refine lv_iconst (v := 5) hx hb dX5_packed_63 (by decide) ?_
      have hi := h.1
      have h := h.2
      refine va_iast hx hb hK hP hD hS 3 0 rfl rfl hi dX5_packed_64 (fun H locs hP hD hS => ?_)
      have hP : va_P (dC, dI) vwCl [(p_me, .inr (4, [.ref p_me_octets])), (p_me_octets, .inl (kI, 4096, .inl me_octets)), (p_pa, .inr (5, [.int pa_octets, .ref p_me, .ref (adK pa_row), .int pa_up, .int pa_aside, .ref p_pa_letters, .int pa_used_1])), (p_pa_letters, .inl (kI, pa_n, .inl (upd pa_letters_2 (Int32.toNatClampNeg x3_2) 5)))] H := hP
      have hD : va_D A [(p_me, .inr (4, [.ref p_me_octets])), (p_me_octets, .inl (kI, 4096, .inl me_octets)), (p_pa, .inr (5, [.int pa_octets, .ref p_me, .ref (adK pa_row), .int pa_up, .int pa_aside, .ref p_pa_letters, .int pa_used_1])), (p_pa_letters, .inl (kI, pa_n, .inl (upd pa_letters_2 (Int32.toNatClampNeg x3_2) 5)))] := hD
      refine lv_iinc (v := (x3_2 + 1)) (lv' := [(3, .int (x3_2 + 1)), (0, .ref p_pa)]) hx hb dX5_packed_65 hl (k := 1) rfl rfl (by decide) rfl (fun ls hl => ?_)
      refine lv_goto (tgt := 49) hx hb dX5_packed_68 (by decide) ?_
      exact h H locs hP hD hS ls (lv_sub hl [1, 0] rfl))
  refine lv_icmp_ge (tgt := 44) hx hb dX5_packed_9 (by decide) (fun c_ => ?_) (fun c_ => ?_)
  · have h := h.1 c_
    exact h H locs hP hD hS ls (lv_sub hl [0] rfl)
  · have h := h.2 c_
    refine lv_aload_n hx hb dX5_packed_12 rfl (lv_at hl 0 rfl) ?_
    refine va_get (D := (dC, dI)) (ci := 5) (v := .int pa_used_1) (C := RX5) (T := TX5) (N := 7) hx hb hts hi_X5 hown hK hP 2 rfl rfl 6 (by decide) (hts (.fieldLink RX5 37 "ZInput$Packer" "used" "I") (List.mem_cons_of_mem _ (List.mem_append_left _ (List.mem_append_left _ (List.mem_append_left _ (List.mem_of_getElem? (i := 0) rfl)))))) (fun _ h9 => h9) rfl dX5_packed_13 ?_
    refine lv_aload_n hx hb dX5_packed_16 rfl (lv_at hl 0 rfl) ?_
    refine va_get (D := (dC, dI)) (ci := 5) (v := .ref p_pa_letters) (C := RX5) (T := TX5) (N := 7) hx hb hts hi_X5 hown hK hP 2 rfl rfl 5 (by decide) (hts (.fieldLink RX5 30 "ZInput$Packer" "letters" "[I") (List.mem_cons_of_mem _ (List.mem_append_left _ (List.mem_append_left _ (List.mem_append_left _ (List.mem_of_getElem? (i := 1) rfl)))))) (fun _ h9 => h9) rfl dX5_packed_17 ?_
    refine va_alen (v := (nI pa_n)) hx hb hK hP 3 0 rfl rfl rfl dX5_packed_20 ?_
    refine lv_icmp_ge (tgt := 44) hx hb dX5_packed_21 (by decide) (fun c_ => ?_) (fun c_ => ?_)
    · have h := h.1 c_
      exact h H locs hP hD hS ls (lv_sub hl [0] rfl)
    · have h := h.2 c_
      refine lv_aload_n hx hb dX5_packed_24 rfl (lv_at hl 0 rfl) ?_
      refine lv_aload_n hx hb dX5_packed_25 rfl (lv_at hl 0 rfl) ?_
      refine va_get (D := (dC, dI)) (ci := 5) (v := .ref p_me) (C := RX5) (T := TX5) (N := 7) hx hb hts hi_X5 hown hK hP 2 rfl rfl 1 (by decide) (hts (.fieldLink RX5 9 "ZInput$Packer" "memory" "LZInput$Memory;") (List.mem_cons_of_mem _ (List.mem_append_left _ (List.mem_append_left _ (List.mem_append_left _ (List.mem_of_getElem? (i := 2) rfl)))))) (fun _ h9 => h9) rfl dX5_packed_26 ?_
      refine lv_iload_n hx hb dX5_packed_29 rfl (lv_at hl 1 rfl) ?_
      refine lv_iload_n hx hb dX5_packed_30 rfl (lv_at hl 3 rfl) ?_
      refine lv_iadd hx hb dX5_packed_31 ?_
      refine zz_Vi (As := [.int (a1 + x3_1)]) (rest := [.ref p_pa]) (wr := [(p_pa, .inr (5, [.int pa_octets, .ref p_me, .ref (adK pa_row), .int pa_up, .int pa_aside, .ref p_pa_letters, .int pa_used_1])), (p_pa_letters, .inl (kI, pa_n, .inl pa_letters_1))]) ⟨hx, hb, hml, hown, hts⟩ (cwV 1 hts gX5_packed_X4_octet rfl rfl rfl (by decide +kernel) ⟨Nat.le_of_ble_eq_true rfl, Nat.le_of_ble_eq_true rfl⟩) hK hP hD hS hA (c_X4_octet l dC dI kI kZ H.size p_me p_me_octets me_octets (a1 + x3_1) _ h) [0, 1] [2, 3] rfl rfl rfl rfl (by decide) 0 rfl rfl rfl rfl hl.1 (Nat.le_of_ble_eq_true rfl) dX5_packed_32 (Nat.le_refl _) (Nat.le_refl _) (fun r_1 u_1 H locs h hP hD hS => ?_)
      have hP : va_P (dC, dI) vwCl [(p_me, .inr (4, [.ref p_me_octets])), (p_me_octets, .inl (kI, 4096, .inl me_octets)), (p_pa, .inr (5, [.int pa_octets, .ref p_me, .ref (adK pa_row), .int pa_up, .int pa_aside, .ref p_pa_letters, .int pa_used_1])), (p_pa_letters, .inl (kI, pa_n, .inl pa_letters_1))] H := hP.sub [2, 3, 0, 1] rfl
      have hD : va_D A [(p_me, .inr (4, [.ref p_me_octets])), (p_me_octets, .inl (kI, 4096, .inl me_octets)), (p_pa, .inr (5, [.int pa_octets, .ref p_me, .ref (adK pa_row), .int pa_up, .int pa_aside, .ref p_pa_letters, .int pa_used_1])), (p_pa_letters, .inl (kI, pa_n, .inl pa_letters_1))] := hD.sub [2, 3, 0, 1] rfl rfl
      refine zz_VvG (As := [.int r_1]) (rest := []) (wr := [(p_me, .inr (4, [.ref p_me_octets])), (p_me_octets, .inl (kI, 4096, .inl me_octets))]) ⟨hx, hb, hml, hown, hts⟩ (cwV 1 hts gX5_packed_X5_addCode rfl rfl rfl (by decide +kernel) ⟨Nat.le_of_ble_eq_true rfl, Nat.le_of_ble_eq_true rfl⟩) hK hP hD hS hA hG hAA (c_X5_addCode l dC dI kI kZ H.size A0 adK adV (fun q hq => hAA q (hA q (Nat.le_trans hS.1 hq))) p_pa p_me p_pa_letters pa_octets pa_row pa_up pa_aside pa_letters_1 pa_used_1 pa_n r_1 _ h) [2, 3] [0, 1] rfl rfl rfl rfl (by decide) 0 rfl rfl rfl rfl hl.1 (Nat.le_of_ble_eq_true rfl) dX5_packed_35 (Nat.le_refl _) (Nat.le_refl _) (fun u_2 H locs h hP hD hS => ?_)
      obtain ⟨pa_letters_3, pa_used_2⟩ := u_2
      have hP : va_P (dC, dI) vwCl [(p_me, .inr (4, [.ref p_me_octets])), (p_me_octets, .inl (kI, 4096, .inl me_octets)), (p_pa, .inr (5, [.int pa_octets, .ref p_me, .ref (adK pa_row), .int pa_up, .int pa_aside, .ref p_pa_letters, .int pa_used_2])), (p_pa_letters, .inl (kI, pa_n, .inl pa_letters_3))] H := hP.sub [0, 1, 2, 3] rfl
      have hD : va_D A [(p_me, .inr (4, [.ref p_me_octets])), (p_me_octets, .inl (kI, 4096, .inl me_octets)), (p_pa, .inr (5, [.int pa_octets, .ref p_me, .ref (adK pa_row), .int pa_up, .int pa_aside, .ref p_pa_letters, .int pa_used_2])), (p_pa_letters, .inl (kI, pa_n, .inl pa_letters_3))] := hD.sub [0, 1, 2, 3] rfl rfl
      refine lv_iinc (v := (x3_1 + 1)) (lv' := [(3, .int (x3_1 + 1)), (0, .ref p_pa), (1, .int a1), (2, .int a2)]) hx hb dX5_packed_38 hl (k := 3) rfl rfl (by decide) rfl (fun ls hl => ?_)
      refine lv_goto (tgt := 7) hx hb dX5_packed_41 (by decide) ?_
      exact h H locs hP hD hS ls (lv_sub hl [1, 2, 3, 0] rfl)
def wp_X6_run (me_octets : Nat → Int32) (pa_row : Nat) (pa_up : Int32) (pa_aside : Int32) (pa_letters : Nat → Int32) (pa_used : Int32) (pa_n : Nat) (di_wordOctets : Int32) (di_separators : Nat → Int32) (di_entriesAt : Int32) (di_size : Int32) (di_entries : Int32) (pr_counts : Int32) (pr_starts : Nat → Int32) (pr_lengths : Nat → Int32) (pr_entries : Nat → Int32) (pr_words : Int32) (pr_textFrom : Int32) (pr_textEnd : Int32) (a1 : Int32) (a2 : Int32) (a3 : Int32) (a4 : Int32) (K : Int32 → (Nat → Int32) → (Nat → Int32) → Int32 → (Nat → Int32) → Int32 → Int32 → Int32 → (Nat → Int32) → (Nat → Int32) → (Nat → Int32) → Int32 → Int32 → Int32 → Prop) : Prop :=
  wp_X6_findText me_octets pr_counts pr_textFrom pr_textEnd a1 (fun (r_1 : Int32) (pr_textFrom_1 : Int32) (pr_textEnd_1 : Int32) => ((r_1 = 0) → (K (-3) me_octets pa_letters pa_used di_separators di_entriesAt di_size di_entries pr_starts pr_lengths pr_entries pr_words pr_textFrom_1 pr_textEnd_1)) ∧ ((¬ r_1 = 0) → (wp_X1_open me_octets di_wordOctets di_separators di_entriesAt di_size di_entries a3 (fun (r_2 : Int32) (di_separators_1 : Nat → Int32) (di_entriesAt_1 : Int32) (di_size_1 : Int32) (di_entries_1 : Int32) => ((¬ r_2 = 0) → (wp_X6_splitText me_octets di_separators_1 pr_starts pr_lengths pr_words pr_textFrom_1 pr_textEnd_1 (fun (pr_starts_1 : Nat → Int32) (pr_lengths_1 : Nat → Int32) (pr_words_1 : Int32) => wp_X4_octet me_octets a2 (fun (r_3 : Int32) => ∀ v_1 : Int32, v_1 = (if (if 255 < r_3 then 255 else r_3) < pr_words_1 then (if 255 < r_3 then 255 else r_3) else pr_words_1) → (wp_X4_holds a2 (2 + (4 * v_1)) (fun (r_4 : Int32) => ((¬ r_4 = 0) → (∀ L72 : Int32 → (Nat → Int32) → Int32 → (Nat → Int32) → Prop, (∀ (x6_1 : Int32) (pa_letters_1 : Nat → Int32) (pa_used_1 : Int32) (pr_entries_1 : Nat → Int32), (((v_1 ≤ x6_1) → (wp_X4_setOctet me_octets (a2 + 1) v_1 (fun (me_octets_1 : Nat → Int32) => ∀ L135 : Int32 → (Nat → Int32) → Prop, (∀ (x6_2 : Int32) (me_octets_2 : Nat → Int32), (((v_1 ≤ x6_2) → (K pr_words_1 me_octets_2 pa_letters_1 pa_used_1 di_separators_1 di_entriesAt_1 di_size_1 di_entries_1 pr_starts_1 pr_lengths_1 pr_entries_1 pr_words_1 pr_textFrom_1 pr_textEnd_1)) ∧ ((¬ v_1 ≤ x6_2) → (vp_in x6_2 255 ∧ (∀ J172 : (Nat → Int32) → Prop, (∀ (me_octets_3 : Nat → Int32), (L135 (x6_2 + 1) me_octets_3) → J172 me_octets_3) → (∀ J157 : Prop, ((wp_X6_tellWord me_octets_2 pr_starts_1 pr_lengths_1 pr_entries_1 x6_2 ((a2 + 2) + (4 * x6_2)) a1 (fun (me_octets_4 : Nat → Int32) => J172 me_octets_4)) → J157) → (((¬ (pr_entries_1 (Int32.toNatClampNeg x6_2)) = 0) → (J157)) ∧ (((pr_entries_1 (Int32.toNatClampNeg x6_2)) = 0) → (((¬ a4 = 0) → (J172 me_octets_2)) ∧ ((a4 = 0) → (J157)))))))))) → L135 x6_2 me_octets_2) → L135 0 me_octets_1))) ∧ ((¬ v_1 ≤ x6_1) → (vp_in x6_1 255 ∧ (vp_in x6_1 255 ∧ (wp_X5_packed me_octets pa_row pa_up pa_aside pa_letters_1 pa_used_1 pa_n (pr_starts_1 (Int32.toNatClampNeg x6_1)) (pr_lengths_1 (Int32.toNatClampNeg x6_1)) (fun (r_5 : Int64) (pa_letters_2 : Nat → Int32) (pa_used_2 : Int32) => wp_X1_entryOf me_octets di_wordOctets di_entriesAt_1 di_size_1 di_entries_1 r_5 (fun (r_6 : Int32) => vp_in x6_1 255 ∧ (L72 (x6_1 + 1) pa_letters_2 pa_used_2 (upd pr_entries_1 (Int32.toNatClampNeg x6_1) r_6))))))))) → L72 x6_1 pa_letters_1 pa_used_1 pr_entries_1) → L72 0 pa_letters pa_used pr_entries)) ∧ ((r_4 = 0) → (K (-3) me_octets pa_letters pa_used di_separators_1 di_entriesAt_1 di_size_1 di_entries_1 pr_starts_1 pr_lengths_1 pr_entries pr_words_1 pr_textFrom_1 pr_textEnd_1)))))))) ∧ ((r_2 = 0) → (K (-3) me_octets pa_letters pa_used di_separators_1 di_entriesAt_1 di_size_1 di_entries_1 pr_starts pr_lengths pr_entries pr_words pr_textFrom_1 pr_textEnd_1))))))
abbrev rmX6_run : Room := { frames := 6, cells := 0, slots := 0, locals := 138 }
set_option maxHeartbeats 4000000 in
set_option maxRecDepth 100000 in
theorem c_X6_run (l : Launch) (dC : Nat → ClassId) (dI : Nat → Nat → Nat) (kI kZ : ClassId) (sz : Nat) (A0 : Nat → Prop) (adK adV : Nat → Nat) (hz : ∀ q, sz ≤ q → A0 q) (p_me : Nat) (p_me_octets : Nat) (p_pa : Nat) (p_pa_letters : Nat) (p_di : Nat) (p_di_separators : Nat) (p_pr : Nat) (p_pr_starts : Nat) (p_pr_lengths : Nat) (p_pr_entries : Nat) (pa_octets : Int32) (me_octets : Nat → Int32) (pa_row : Nat) (pa_up : Int32) (pa_aside : Int32) (pa_letters : Nat → Int32) (pa_used : Int32) (pa_n : Nat) (di_wordOctets : Int32) (di_separators : Nat → Int32) (di_entriesAt : Int32) (di_size : Int32) (di_entries : Int32) (pr_counts : Int32) (pr_starts : Nat → Int32) (pr_lengths : Nat → Int32) (pr_entries : Nat → Int32) (pr_words : Int32) (pr_textFrom : Int32) (pr_textEnd : Int32) (a1 : Int32) (a2 : Int32) (a3 : Int32) (a4 : Int32) (K : Int32 → (Nat → Int32) → (Nat → Int32) → Int32 → (Nat → Int32) → Int32 → Int32 → Int32 → (Nat → Int32) → (Nat → Int32) → (Nat → Int32) → Int32 → Int32 → Int32 → Prop) (h : wp_X6_run me_octets pa_row pa_up pa_aside pa_letters pa_used pa_n di_wordOctets di_separators di_entriesAt di_size di_entries pr_counts pr_starts pr_lengths pr_entries pr_words pr_textFrom pr_textEnd a1 a2 a3 a4 K) : Met l yX6_run wsX6_run rmX6_run (va_Pc [.ref p_pr, .int a1, .int a2, .int a3, .int a4] (zPG (dC, dI) (zT kI kZ) sz A0 adK adV [(p_me, .inr (4, [.ref p_me_octets])), (p_me_octets, .inl (kI, 4096, .inl me_octets)), (p_pa, .inr (5, [.int pa_octets, .ref p_me, .ref (adK pa_row), .int pa_up, .int pa_aside, .ref p_pa_letters, .int pa_used])), (p_pa_letters, .inl (kI, pa_n, .inl pa_letters)), (p_di, .inr (1, [.ref p_me, .int di_wordOctets, .ref p_di_separators, .int di_entriesAt, .int di_size, .int di_entries])), (p_di_separators, .inl (kZ, 256, .inl di_separators)), (p_pr, .inr (6, [.ref p_me, .ref p_pa, .ref p_di, .int pr_counts, .ref p_pr_starts, .ref p_pr_lengths, .ref p_pr_entries, .int pr_words, .int pr_textFrom, .int pr_textEnd])), (p_pr_starts, .inl (kI, 255, .inl pr_starts)), (p_pr_lengths, .inl (kI, 255, .inl pr_lengths)), (p_pr_entries, .inl (kI, 255, .inl pr_entries))])) (va_Qi (fun (r : Int32) (u : (Nat → Int32) × (Nat → Int32) × Int32 × (Nat → Int32) × Int32 × Int32 × Int32 × (Nat → Int32) × (Nat → Int32) × (Nat → Int32) × Int32 × Int32 × Int32) => K r u.1 u.2.1 u.2.2.1 u.2.2.2.1 u.2.2.2.2.1 u.2.2.2.2.2.1 u.2.2.2.2.2.2.1 u.2.2.2.2.2.2.2.1 u.2.2.2.2.2.2.2.2.1 u.2.2.2.2.2.2.2.2.2.1 u.2.2.2.2.2.2.2.2.2.2.1 u.2.2.2.2.2.2.2.2.2.2.2.1 u.2.2.2.2.2.2.2.2.2.2.2.2) (fun (u : (Nat → Int32) × (Nat → Int32) × Int32 × (Nat → Int32) × Int32 × Int32 × Int32 × (Nat → Int32) × (Nat → Int32) × (Nat → Int32) × Int32 × Int32 × Int32) => zB (dC, dI) (zT kI kZ) (va_A [(p_me, .inr (4, [.ref p_me_octets])), (p_me_octets, .inl (kI, 4096, .inl me_octets)), (p_pa, .inr (5, [.int pa_octets, .ref p_me, .ref (adK pa_row), .int pa_up, .int pa_aside, .ref p_pa_letters, .int pa_used])), (p_pa_letters, .inl (kI, pa_n, .inl pa_letters)), (p_di, .inr (1, [.ref p_me, .int di_wordOctets, .ref p_di_separators, .int di_entriesAt, .int di_size, .int di_entries])), (p_di_separators, .inl (kZ, 256, .inl di_separators)), (p_pr, .inr (6, [.ref p_me, .ref p_pa, .ref p_di, .int pr_counts, .ref p_pr_starts, .ref p_pr_lengths, .ref p_pr_entries, .int pr_words, .int pr_textFrom, .int pr_textEnd])), (p_pr_starts, .inl (kI, 255, .inl pr_starts)), (p_pr_lengths, .inl (kI, 255, .inl pr_lengths)), (p_pr_entries, .inl (kI, 255, .inl pr_entries))] sz) [(p_me, .inr (4, [.ref p_me_octets])), (p_me_octets, .inl (kI, 4096, .inl u.1)), (p_pa, .inr (5, [.int pa_octets, .ref p_me, .ref (adK pa_row), .int pa_up, .int pa_aside, .ref p_pa_letters, .int u.2.2.1])), (p_pa_letters, .inl (kI, pa_n, .inl u.2.1)), (p_di, .inr (1, [.ref p_me, .int di_wordOctets, .ref p_di_separators, .int u.2.2.2.2.1, .int u.2.2.2.2.2.1, .int u.2.2.2.2.2.2.1])), (p_di_separators, .inl (kZ, 256, .inl u.2.2.2.1)), (p_pr, .inr (6, [.ref p_me, .ref p_pa, .ref p_di, .int pr_counts, .ref p_pr_starts, .ref p_pr_lengths, .ref p_pr_entries, .int u.2.2.2.2.2.2.2.2.2.2.1, .int u.2.2.2.2.2.2.2.2.2.2.2.1, .int u.2.2.2.2.2.2.2.2.2.2.2.2])), (p_pr_starts, .inl (kI, 255, .inl u.2.2.2.2.2.2.2.1)), (p_pr_lengths, .inl (kI, 255, .inl u.2.2.2.2.2.2.2.2.1)), (p_pr_entries, .inl (kI, 255, .inl u.2.2.2.2.2.2.2.2.2.1))]) (va_A [(p_me, .inr (4, [.ref p_me_octets])), (p_me_octets, .inl (kI, 4096, .inl me_octets)), (p_pa, .inr (5, [.int pa_octets, .ref p_me, .ref (adK pa_row), .int pa_up, .int pa_aside, .ref p_pa_letters, .int pa_used])), (p_pa_letters, .inl (kI, pa_n, .inl pa_letters)), (p_di, .inr (1, [.ref p_me, .int di_wordOctets, .ref p_di_separators, .int di_entriesAt, .int di_size, .int di_entries])), (p_di_separators, .inl (kZ, 256, .inl di_separators)), (p_pr, .inr (6, [.ref p_me, .ref p_pa, .ref p_di, .int pr_counts, .ref p_pr_starts, .ref p_pr_lengths, .ref p_pr_entries, .int pr_words, .int pr_textFrom, .int pr_textEnd])), (p_pr_starts, .inl (kI, 255, .inl pr_starts)), (p_pr_lengths, .inl (kI, 255, .inl pr_lengths)), (p_pr_entries, .inl (kI, 255, .inl pr_entries))] sz)) 0 0 (va_A [(p_me, .inr (4, [.ref p_me_octets])), (p_me_octets, .inl (kI, 4096, .inl me_octets)), (p_pa, .inr (5, [.int pa_octets, .ref p_me, .ref (adK pa_row), .int pa_up, .int pa_aside, .ref p_pa_letters, .int pa_used])), (p_pa_letters, .inl (kI, pa_n, .inl pa_letters)), (p_di, .inr (1, [.ref p_me, .int di_wordOctets, .ref p_di_separators, .int di_entriesAt, .int di_size, .int di_entries])), (p_di_separators, .inl (kZ, 256, .inl di_separators)), (p_pr, .inr (6, [.ref p_me, .ref p_pa, .ref p_di, .int pr_counts, .ref p_pr_starts, .ref p_pr_lengths, .ref p_pr_entries, .int pr_words, .int pr_textFrom, .int pr_textEnd])), (p_pr_starts, .inl (kI, 255, .inl pr_starts)), (p_pr_lengths, .inl (kI, 255, .inl pr_lengths)), (p_pr_entries, .inl (kI, 255, .inl pr_entries))] sz) := by
  refine zz_ofiG (cc := cX6_run) (maxL := 7) (by decide) rfl (Nat.le_of_ble_eq_true rfl) hz ?_
  intro p e s m args below meth c A Q ls hx hb hml hown hts hK hA hG hAA hR hP hD hS hl
  have hown : s.vm.findClass RX6 = some m.cls := hown
  have hl : lv_has ls 7 [(0, .ref p_pr), (1, .int a1), (2, .int a2), (3, .int a3), (4, .int a4)] := hl
  have hi_X6 : ∀ w ∈ wsX60, w ∈ wsX6_run := fun _ h => (List.mem_cons_of_mem _ (List.mem_append_left _ (List.mem_append_left _ (List.mem_append_left _ (List.mem_append_right _ h)))))
  unfold wp_X6_run at h
  obtain ⟨H, eH⟩ : ∃ H, H = s.heap := ⟨_, rfl⟩
  obtain ⟨locs, eL⟩ : ∃ L : List Loc, L = [] := ⟨_, rfl⟩
  rw [← eL]
  have hS : va_S A s.heap s.heap locs := by rw [eL]; exact hS
  suffices hgo : ∀ H : Heap, va_P (dC, dI) vwCl [(p_me, .inr (4, [.ref p_me_octets])), (p_me_octets, .inl (kI, 4096, .inl me_octets)), (p_pa, .inr (5, [.int pa_octets, .ref p_me, .ref (adK pa_row), .int pa_up, .int pa_aside, .ref p_pa_letters, .int pa_used])), (p_pa_letters, .inl (kI, pa_n, .inl pa_letters)), (p_di, .inr (1, [.ref p_me, .int di_wordOctets, .ref p_di_separators, .int di_entriesAt, .int di_size, .int di_entries])), (p_di_separators, .inl (kZ, 256, .inl di_separators)), (p_pr, .inr (6, [.ref p_me, .ref p_pa, .ref p_di, .int pr_counts, .ref p_pr_starts, .ref p_pr_lengths, .ref p_pr_entries, .int pr_words, .int pr_textFrom, .int pr_textEnd])), (p_pr_starts, .inl (kI, 255, .inl pr_starts)), (p_pr_lengths, .inl (kI, 255, .inl pr_lengths)), (p_pr_entries, .inl (kI, 255, .inl pr_entries))] H → va_S A s.heap H locs → W p l e rmX6_run s m args below meth c H locs 0 0 Q (F0 m 0 ls []) from hgo _ hP hS
  clear hP hS eH H eL
  intro H hP hS
  refine lv_aload_n hx hb dX6_run_0 rfl (lv_at hl 0 rfl) ?_
  refine lv_iload_n hx hb dX6_run_1 rfl (lv_at hl 1 rfl) ?_
  refine zz_Vi (As := [.int a1]) (rest := []) (wr := [(p_pa, .inr (5, [.int pa_octets, .ref p_me, .ref (adK pa_row), .int pa_up, .int pa_aside, .ref p_pa_letters, .int pa_used])), (p_pa_letters, .inl (kI, pa_n, .inl pa_letters)), (p_di, .inr (1, [.ref p_me, .int di_wordOctets, .ref p_di_separators, .int di_entriesAt, .int di_size, .int di_entries])), (p_di_separators, .inl (kZ, 256, .inl di_separators)), (p_pr_starts, .inl (kI, 255, .inl pr_starts)), (p_pr_lengths, .inl (kI, 255, .inl pr_lengths)), (p_pr_entries, .inl (kI, 255, .inl pr_entries))]) ⟨hx, hb, hml, hown, hts⟩ (cwV 1 hts gX6_run_X6_findText rfl rfl rfl (by decide +kernel) ⟨Nat.le_of_ble_eq_true rfl, Nat.le_of_ble_eq_true rfl⟩) hK hP hD hS hA (c_X6_findText l dC dI kI kZ H.size p_me p_me_octets p_pr p_pa p_di p_pr_starts p_pr_lengths p_pr_entries pr_words me_octets pr_counts pr_textFrom pr_textEnd a1 _ h) [0, 1, 6] [2, 3, 4, 5, 7, 8, 9] rfl rfl rfl rfl (by decide) 2 rfl rfl rfl rfl hl.1 (Nat.le_of_ble_eq_true rfl) dX6_run_2 (Nat.le_refl _) (Nat.le_refl _) (fun r_1 u_1 H locs h hP hD hS => ?_)
  obtain ⟨pr_textFrom_1, pr_textEnd_1⟩ := u_1
  have hP : va_P (dC, dI) vwCl [(p_me, .inr (4, [.ref p_me_octets])), (p_me_octets, .inl (kI, 4096, .inl me_octets)), (p_pa, .inr (5, [.int pa_octets, .ref p_me, .ref (adK pa_row), .int pa_up, .int pa_aside, .ref p_pa_letters, .int pa_used])), (p_pa_letters, .inl (kI, pa_n, .inl pa_letters)), (p_di, .inr (1, [.ref p_me, .int di_wordOctets, .ref p_di_separators, .int di_entriesAt, .int di_size, .int di_entries])), (p_di_separators, .inl (kZ, 256, .inl di_separators)), (p_pr, .inr (6, [.ref p_me, .ref p_pa, .ref p_di, .int pr_counts, .ref p_pr_starts, .ref p_pr_lengths, .ref p_pr_entries, .int pr_words, .int pr_textFrom_1, .int pr_textEnd_1])), (p_pr_starts, .inl (kI, 255, .inl pr_starts)), (p_pr_lengths, .inl (kI, 255, .inl pr_lengths)), (p_pr_entries, .inl (kI, 255, .inl pr_entries))] H := hP.sub [7, 8, 0, 1, 2, 3, 9, 4, 5, 6] rfl
  have hD : va_D A [(p_me, .inr (4, [.ref p_me_octets])), (p_me_octets, .inl (kI, 4096, .inl me_octets)), (p_pa, .inr (5, [.int pa_octets, .ref p_me, .ref (adK pa_row), .int pa_up, .int pa_aside, .ref p_pa_letters, .int pa_used])), (p_pa_letters, .inl (kI, pa_n, .inl pa_letters)), (p_di, .inr (1, [.ref p_me, .int di_wordOctets, .ref p_di_separators, .int di_entriesAt, .int di_size, .int di_entries])), (p_di_separators, .inl (kZ, 256, .inl di_separators)), (p_pr, .inr (6, [.ref p_me, .ref p_pa, .ref p_di, .int pr_counts, .ref p_pr_starts, .ref p_pr_lengths, .ref p_pr_entries, .int pr_words, .int pr_textFrom_1, .int pr_textEnd_1])), (p_pr_starts, .inl (kI, 255, .inl pr_starts)), (p_pr_lengths, .inl (kI, 255, .inl pr_lengths)), (p_pr_entries, .inl (kI, 255, .inl pr_entries))] := hD.sub [7, 8, 0, 1, 2, 3, 9, 4, 5, 6] rfl rfl
  refine lv_if_eq (tgt := 19) hx hb dX6_run_5 (by decide) (fun c_ => ?_) (fun c_ => ?_)
  · have h := h.1 c_
    refine lv_bipush (v := (-3)) hx hb dX6_run_19 (by decide) ?_
    exact hR (-3) (me_octets, pa_letters, pa_used, di_separators, di_entriesAt, di_size, di_entries, pr_starts, pr_lengths, pr_entries, pr_words, pr_textFrom_1, pr_textEnd_1) H locs h hP hD hS _ ls dX6_run_21
  · have h := h.2 c_
    refine lv_aload_n hx hb dX6_run_8 rfl (lv_at hl 0 rfl) ?_
    refine va_get (D := (dC, dI)) (ci := 6) (v := .ref p_di) (C := RX6) (T := TX6) (N := 10) hx hb hts hi_X6 hown hK hP 6 rfl rfl 2 (by decide) (hts (.fieldLink RX6 29 "ZInput$Parser" "dictionary" "LZInput$Dictionary;") (List.mem_cons_of_mem _ (List.mem_append_left _ (List.mem_append_left _ (List.mem_append_left _ (List.mem_append_left _ (List.mem_append_left _ (List.mem_of_getElem? (i := 0) rfl)))))))) (fun _ h9 => h9) rfl dX6_run_9 ?_
    refine lv_iload_n hx hb dX6_run_12 rfl (lv_at hl 3 rfl) ?_
    refine zz_Vi (As := [.int a3]) (rest := []) (wr := [(p_pa, .inr (5, [.int pa_octets, .ref p_me, .ref (adK pa_row), .int pa_up, .int pa_aside, .ref p_pa_letters, .int pa_used])), (p_pa_letters, .inl (kI, pa_n, .inl pa_letters)), (p_pr, .inr (6, [.ref p_me, .ref p_pa, .ref p_di, .int pr_counts, .ref p_pr_starts, .ref p_pr_lengths, .ref p_pr_entries, .int pr_words, .int pr_textFrom_1, .int pr_textEnd_1])), (p_pr_starts, .inl (kI, 255, .inl pr_starts)), (p_pr_lengths, .inl (kI, 255, .inl pr_lengths)), (p_pr_entries, .inl (kI, 255, .inl pr_entries))]) ⟨hx, hb, hml, hown, hts⟩ (cwV 1 hts gX6_run_X1_open rfl rfl rfl (by decide +kernel) ⟨Nat.le_of_ble_eq_true rfl, Nat.le_of_ble_eq_true rfl⟩) hK hP hD hS hA (c_X1_open l dC dI kI kZ H.size p_me p_me_octets p_di p_di_separators me_octets di_wordOctets di_separators di_entriesAt di_size di_entries a3 _ h) [0, 1, 4, 5] [2, 3, 6, 7, 8, 9] rfl rfl rfl rfl (by decide) 2 rfl rfl rfl rfl hl.1 (Nat.le_of_ble_eq_true rfl) dX6_run_13 (Nat.le_refl _) (Nat.le_refl _) (fun r_2 u_2 H locs h hP hD hS => ?_)
    obtain ⟨di_separators_1, di_entriesAt_1, di_size_1, di_entries_1⟩ := u_2
    have hP : va_P (dC, dI) vwCl [(p_me, .inr (4, [.ref p_me_octets])), (p_me_octets, .inl (kI, 4096, .inl me_octets)), (p_pa, .inr (5, [.int pa_octets, .ref p_me, .ref (adK pa_row), .int pa_up, .int pa_aside, .ref p_pa_letters, .int pa_used])), (p_pa_letters, .inl (kI, pa_n, .inl pa_letters)), (p_di, .inr (1, [.ref p_me, .int di_wordOctets, .ref p_di_separators, .int di_entriesAt_1, .int di_size_1, .int di_entries_1])), (p_di_separators, .inl (kZ, 256, .inl di_separators_1)), (p_pr, .inr (6, [.ref p_me, .ref p_pa, .ref p_di, .int pr_counts, .ref p_pr_starts, .ref p_pr_lengths, .ref p_pr_entries, .int pr_words, .int pr_textFrom_1, .int pr_textEnd_1])), (p_pr_starts, .inl (kI, 255, .inl pr_starts)), (p_pr_lengths, .inl (kI, 255, .inl pr_lengths)), (p_pr_entries, .inl (kI, 255, .inl pr_entries))] H := hP.sub [6, 7, 0, 1, 8, 9, 2, 3, 4, 5] rfl
    have hD : va_D A [(p_me, .inr (4, [.ref p_me_octets])), (p_me_octets, .inl (kI, 4096, .inl me_octets)), (p_pa, .inr (5, [.int pa_octets, .ref p_me, .ref (adK pa_row), .int pa_up, .int pa_aside, .ref p_pa_letters, .int pa_used])), (p_pa_letters, .inl (kI, pa_n, .inl pa_letters)), (p_di, .inr (1, [.ref p_me, .int di_wordOctets, .ref p_di_separators, .int di_entriesAt_1, .int di_size_1, .int di_entries_1])), (p_di_separators, .inl (kZ, 256, .inl di_separators_1)), (p_pr, .inr (6, [.ref p_me, .ref p_pa, .ref p_di, .int pr_counts, .ref p_pr_starts, .ref p_pr_lengths, .ref p_pr_entries, .int pr_words, .int pr_textFrom_1, .int pr_textEnd_1])), (p_pr_starts, .inl (kI, 255, .inl pr_starts)), (p_pr_lengths, .inl (kI, 255, .inl pr_lengths)), (p_pr_entries, .inl (kI, 255, .inl pr_entries))] := hD.sub [6, 7, 0, 1, 8, 9, 2, 3, 4, 5] rfl rfl
    refine lv_if_ne (tgt := 22) hx hb dX6_run_16 (by decide) (fun c_ => ?_) (fun c_ => ?_)
    · have h := h.1 c_
      refine lv_aload_n hx hb dX6_run_22 rfl (lv_at hl 0 rfl) ?_
      refine zz_Vv (As := []) (rest := []) (wr := [(p_pa, .inr (5, [.int pa_octets, .ref p_me, .ref (adK pa_row), .int pa_up, .int pa_aside, .ref p_pa_letters, .int pa_used])), (p_pa_letters, .inl (kI, pa_n, .inl pa_letters)), (p_pr_entries, .inl (kI, 255, .inl pr_entries))]) ⟨hx, hb, hml, hown, hts⟩ (cwV 0 hts gX6_run_X6_splitText rfl rfl rfl (by decide +kernel) ⟨Nat.le_of_ble_eq_true rfl, Nat.le_of_ble_eq_true rfl⟩) hK hP hD hS hA (c_X6_splitText l dC dI kI kZ H.size p_me p_me_octets p_di p_di_separators p_pr p_pa p_pr_starts p_pr_lengths p_pr_entries di_wordOctets di_entriesAt_1 di_size_1 di_entries_1 pr_counts me_octets di_separators_1 pr_starts pr_lengths pr_words pr_textFrom_1 pr_textEnd_1 _ h) [0, 1, 4, 5, 6, 7, 8] [2, 3, 9] rfl rfl rfl rfl (by decide) 4 rfl rfl rfl rfl hl.1 (Nat.le_of_ble_eq_true rfl) dX6_run_23 (Nat.le_refl _) (Nat.le_refl _) (fun u_3 H locs h hP hD hS => ?_)
      obtain ⟨pr_starts_1, pr_lengths_1, pr_words_1⟩ := u_3
      have hP : va_P (dC, dI) vwCl [(p_me, .inr (4, [.ref p_me_octets])), (p_me_octets, .inl (kI, 4096, .inl me_octets)), (p_pa, .inr (5, [.int pa_octets, .ref p_me, .ref (adK pa_row), .int pa_up, .int pa_aside, .ref p_pa_letters, .int pa_used])), (p_pa_letters, .inl (kI, pa_n, .inl pa_letters)), (p_di, .inr (1, [.ref p_me, .int di_wordOctets, .ref p_di_separators, .int di_entriesAt_1, .int di_size_1, .int di_entries_1])), (p_di_separators, .inl (kZ, 256, .inl di_separators_1)), (p_pr, .inr (6, [.ref p_me, .ref p_pa, .ref p_di, .int pr_counts, .ref p_pr_starts, .ref p_pr_lengths, .ref p_pr_entries, .int pr_words_1, .int pr_textFrom_1, .int pr_textEnd_1])), (p_pr_starts, .inl (kI, 255, .inl pr_starts_1)), (p_pr_lengths, .inl (kI, 255, .inl pr_lengths_1)), (p_pr_entries, .inl (kI, 255, .inl pr_entries))] H := hP.sub [3, 4, 0, 1, 5, 6, 7, 8, 9, 2] rfl
      have hD : va_D A [(p_me, .inr (4, [.ref p_me_octets])), (p_me_octets, .inl (kI, 4096, .inl me_octets)), (p_pa, .inr (5, [.int pa_octets, .ref p_me, .ref (adK pa_row), .int pa_up, .int pa_aside, .ref p_pa_letters, .int pa_used])), (p_pa_letters, .inl (kI, pa_n, .inl pa_letters)), (p_di, .inr (1, [.ref p_me, .int di_wordOctets, .ref p_di_separators, .int di_entriesAt_1, .int di_size_1, .int di_entries_1])), (p_di_separators, .inl (kZ, 256, .inl di_separators_1)), (p_pr, .inr (6, [.ref p_me, .ref p_pa, .ref p_di, .int pr_counts, .ref p_pr_starts, .ref p_pr_lengths, .ref p_pr_entries, .int pr_words_1, .int pr_textFrom_1, .int pr_textEnd_1])), (p_pr_starts, .inl (kI, 255, .inl pr_starts_1)), (p_pr_lengths, .inl (kI, 255, .inl pr_lengths_1)), (p_pr_entries, .inl (kI, 255, .inl pr_entries))] := hD.sub [3, 4, 0, 1, 5, 6, 7, 8, 9, 2] rfl rfl
      refine lv_aload_n hx hb dX6_run_26 rfl (lv_at hl 0 rfl) ?_
      refine va_get (D := (dC, dI)) (ci := 6) (v := .int pr_words_1) (C := RX6) (T := TX6) (N := 10) hx hb hts hi_X6 hown hK hP 6 rfl rfl 7 (by decide) (hts (.fieldLink RX6 49 "ZInput$Parser" "words" "I") (List.mem_cons_of_mem _ (List.mem_append_left _ (List.mem_append_left _ (List.mem_append_left _ (List.mem_append_left _ (List.mem_append_left _ (List.mem_of_getElem? (i := 1) rfl)))))))) (fun _ h9 => h9) rfl dX6_run_27 ?_
      refine lv_aload_n hx hb dX6_run_30 rfl (lv_at hl 0 rfl) ?_
      refine va_get (D := (dC, dI)) (ci := 6) (v := .ref p_me) (C := RX6) (T := TX6) (N := 10) hx hb hts hi_X6 hown hK hP 6 rfl rfl 0 (by decide) (hts (.fieldLink RX6 21 "ZInput$Parser" "memory" "LZInput$Memory;") (List.mem_cons_of_mem _ (List.mem_append_left _ (List.mem_append_left _ (List.mem_append_left _ (List.mem_append_left _ (List.mem_append_left _ (List.mem_of_getElem? (i := 2) rfl)))))))) (fun _ h9 => h9) rfl dX6_run_31 ?_
      refine lv_iload_n hx hb dX6_run_34 rfl (lv_at hl 2 rfl) ?_
      refine zz_Vi (As := [.int a2]) (rest := [.int pr_words_1]) (wr := [(p_pa, .inr (5, [.int pa_octets, .ref p_me, .ref (adK pa_row), .int pa_up, .int pa_aside, .ref p_pa_letters, .int pa_used])), (p_pa_letters, .inl (kI, pa_n, .inl pa_letters)), (p_di, .inr (1, [.ref p_me, .int di_wordOctets, .ref p_di_separators, .int di_entriesAt_1, .int di_size_1, .int di_entries_1])), (p_di_separators, .inl (kZ, 256, .inl di_separators_1)), (p_pr, .inr (6, [.ref p_me, .ref p_pa, .ref p_di, .int pr_counts, .ref p_pr_starts, .ref p_pr_lengths, .ref p_pr_entries, .int pr_words_1, .int pr_textFrom_1, .int pr_textEnd_1])), (p_pr_starts, .inl (kI, 255, .inl pr_starts_1)), (p_pr_lengths, .inl (kI, 255, .inl pr_lengths_1)), (p_pr_entries, .inl (kI, 255, .inl pr_entries))]) ⟨hx, hb, hml, hown, hts⟩ (cwV 1 hts gX6_run_X4_octet rfl rfl rfl (by decide +kernel) ⟨Nat.le_of_ble_eq_true rfl, Nat.le_of_ble_eq_true rfl⟩) hK hP hD hS hA (c_X4_octet l dC dI kI kZ H.size p_me p_me_octets me_octets a2 _ h) [0, 1] [2, 3, 4, 5, 6, 7, 8, 9] rfl rfl rfl rfl (by decide) 0 rfl rfl rfl rfl hl.1 (Nat.le_of_ble_eq_true rfl) dX6_run_35 (Nat.le_refl _) (Nat.le_refl _) (fun r_3 u_4 H locs h hP hD hS => ?_)
      have hP : va_P (dC, dI) vwCl [(p_me, .inr (4, [.ref p_me_octets])), (p_me_octets, .inl (kI, 4096, .inl me_octets)), (p_pa, .inr (5, [.int pa_octets, .ref p_me, .ref (adK pa_row), .int pa_up, .int pa_aside, .ref p_pa_letters, .int pa_used])), (p_pa_letters, .inl (kI, pa_n, .inl pa_letters)), (p_di, .inr (1, [.ref p_me, .int di_wordOctets, .ref p_di_separators, .int di_entriesAt_1, .int di_size_1, .int di_entries_1])), (p_di_separators, .inl (kZ, 256, .inl di_separators_1)), (p_pr, .inr (6, [.ref p_me, .ref p_pa, .ref p_di, .int pr_counts, .ref p_pr_starts, .ref p_pr_lengths, .ref p_pr_entries, .int pr_words_1, .int pr_textFrom_1, .int pr_textEnd_1])), (p_pr_starts, .inl (kI, 255, .inl pr_starts_1)), (p_pr_lengths, .inl (kI, 255, .inl pr_lengths_1)), (p_pr_entries, .inl (kI, 255, .inl pr_entries))] H := hP.sub [8, 9, 0, 1, 2, 3, 4, 5, 6, 7] rfl
      have hD : va_D A [(p_me, .inr (4, [.ref p_me_octets])), (p_me_octets, .inl (kI, 4096, .inl me_octets)), (p_pa, .inr (5, [.int pa_octets, .ref p_me, .ref (adK pa_row), .int pa_up, .int pa_aside, .ref p_pa_letters, .int pa_used])), (p_pa_letters, .inl (kI, pa_n, .inl pa_letters)), (p_di, .inr (1, [.ref p_me, .int di_wordOctets, .ref p_di_separators, .int di_entriesAt_1, .int di_size_1, .int di_entries_1])), (p_di_separators, .inl (kZ, 256, .inl di_separators_1)), (p_pr, .inr (6, [.ref p_me, .ref p_pa, .ref p_di, .int pr_counts, .ref p_pr_starts, .ref p_pr_lengths, .ref p_pr_entries, .int pr_words_1, .int pr_textFrom_1, .int pr_textEnd_1])), (p_pr_starts, .inl (kI, 255, .inl pr_starts_1)), (p_pr_lengths, .inl (kI, 255, .inl pr_lengths_1)), (p_pr_entries, .inl (kI, 255, .inl pr_entries))] := hD.sub [8, 9, 0, 1, 2, 3, 4, 5, 6, 7] rfl rfl
      refine lv_sipush (v := 255) hx hb dX6_run_38 (by decide) ?_
      refine va_mmin hx hb (hml.trans hl.1.symm) hown (hts (.methodLink RX6 59 Lib.Math.min.name) (List.mem_cons_of_mem _ (List.mem_append_left _ (List.mem_append_left _ (List.mem_append_left _ (List.mem_append_left _ (List.mem_append_left _ (List.mem_of_getElem? (i := 3) rfl)))))))) (hts (.static Lib.Math.min.name) (List.mem_cons_of_mem _ (List.mem_append_left _ (List.mem_append_left _ (List.mem_append_left _ (List.mem_append_left _ (List.mem_append_left _ (List.mem_of_getElem? (i := 4) rfl)))))))) (hts (.initialized "java/lang/Math") (List.mem_cons_of_mem _ (List.mem_append_left _ (List.mem_append_left _ (List.mem_append_left _ (List.mem_append_left _ (List.mem_append_left _ (List.mem_of_getElem? (i := 5) rfl)))))))) (hts (.code Lib.Math.min.name Lib.Math.min.code 2 (some .int)) (List.mem_cons_of_mem _ (List.mem_append_left _ (List.mem_append_left _ (List.mem_append_left _ (List.mem_append_left _ (List.mem_append_left _ (List.mem_of_getElem? (i := 6) rfl)))))))) (Nat.le_of_ble_eq_true rfl) (Nat.le_of_ble_eq_true rfl) (Nat.le_refl _) (Nat.le_refl _) dX6_run_41 ?_
      refine va_mmin hx hb (hml.trans hl.1.symm) hown (hts (.methodLink RX6 59 Lib.Math.min.name) (List.mem_cons_of_mem _ (List.mem_append_left _ (List.mem_append_left _ (List.mem_append_left _ (List.mem_append_left _ (List.mem_append_left _ (List.mem_of_getElem? (i := 3) rfl)))))))) (hts (.static Lib.Math.min.name) (List.mem_cons_of_mem _ (List.mem_append_left _ (List.mem_append_left _ (List.mem_append_left _ (List.mem_append_left _ (List.mem_append_left _ (List.mem_of_getElem? (i := 4) rfl)))))))) (hts (.initialized "java/lang/Math") (List.mem_cons_of_mem _ (List.mem_append_left _ (List.mem_append_left _ (List.mem_append_left _ (List.mem_append_left _ (List.mem_append_left _ (List.mem_of_getElem? (i := 5) rfl)))))))) (hts (.code Lib.Math.min.name Lib.Math.min.code 2 (some .int)) (List.mem_cons_of_mem _ (List.mem_append_left _ (List.mem_append_left _ (List.mem_append_left _ (List.mem_append_left _ (List.mem_append_left _ (List.mem_of_getElem? (i := 6) rfl)))))))) (Nat.le_of_ble_eq_true rfl) (Nat.le_of_ble_eq_true rfl) (Nat.le_refl _) (Nat.le_refl _) dX6_run_44 ?_
      refine lv_topi (fun v_1 ev_1 => ?_)
      have h := h v_1 ev_1
      refine lv_istore (lv' := [(5, .int v_1), (0, .ref p_pr), (1, .int a1), (2, .int a2), (3, .int a3), (4, .int a4)]) hx hb dX6_run_47 hl (by decide) rfl (fun ls hl => ?_)
      refine lv_aload_n hx hb dX6_run_49 rfl (lv_at hl 1 rfl) ?_
      refine va_get (D := (dC, dI)) (ci := 6) (v := .ref p_me) (C := RX6) (T := TX6) (N := 10) hx hb hts hi_X6 hown hK hP 6 rfl rfl 0 (by decide) (hts (.fieldLink RX6 21 "ZInput$Parser" "memory" "LZInput$Memory;") (List.mem_cons_of_mem _ (List.mem_append_left _ (List.mem_append_left _ (List.mem_append_left _ (List.mem_append_left _ (List.mem_append_left _ (List.mem_of_getElem? (i := 2) rfl)))))))) (fun _ h9 => h9) rfl dX6_run_50 ?_
      refine lv_iload_n hx hb dX6_run_53 rfl (lv_at hl 3 rfl) ?_
      refine lv_iconst (v := 2) hx hb dX6_run_54 (by decide) ?_
      refine lv_iconst (v := 4) hx hb dX6_run_55 (by decide) ?_
      refine lv_iload hx hb dX6_run_56 (lv_at hl 0 rfl) ?_
      refine lv_imul hx hb dX6_run_58 ?_
      refine lv_iadd hx hb dX6_run_59 ?_
      refine zz_Vi (As := [.int a2, .int (2 + (4 * v_1))]) (rest := []) (wr := [(p_me_octets, .inl (kI, 4096, .inl me_octets)), (p_pa, .inr (5, [.int pa_octets, .ref p_me, .ref (adK pa_row), .int pa_up, .int pa_aside, .ref p_pa_letters, .int pa_used])), (p_pa_letters, .inl (kI, pa_n, .inl pa_letters)), (p_di, .inr (1, [.ref p_me, .int di_wordOctets, .ref p_di_separators, .int di_entriesAt_1, .int di_size_1, .int di_entries_1])), (p_di_separators, .inl (kZ, 256, .inl di_separators_1)), (p_pr, .inr (6, [.ref p_me, .ref p_pa, .ref p_di, .int pr_counts, .ref p_pr_starts, .ref p_pr_lengths, .ref p_pr_entries, .int pr_words_1, .int pr_textFrom_1, .int pr_textEnd_1])), (p_pr_starts, .inl (kI, 255, .inl pr_starts_1)), (p_pr_lengths, .inl (kI, 255, .inl pr_lengths_1)), (p_pr_entries, .inl (kI, 255, .inl pr_entries))]) ⟨hx, hb, hml, hown, hts⟩ (cwV 2 hts gX6_run_X4_holds rfl rfl rfl (by decide +kernel) ⟨Nat.le_of_ble_eq_true rfl, Nat.le_of_ble_eq_true rfl⟩) hK hP hD hS hA (c_X4_holds l dC dI kI kZ H.size p_me p_me_octets a2 (2 + (4 * v_1)) _ h) [0] [1, 2, 3, 4, 5, 6, 7, 8, 9] rfl rfl rfl rfl (by decide) 0 rfl rfl rfl rfl hl.1 (Nat.le_of_ble_eq_true rfl) dX6_run_60 (Nat.le_refl _) (Nat.le_refl _) (fun r_4 u_5 H locs h hP hD hS => ?_)
      have hP : va_P (dC, dI) vwCl [(p_me, .inr (4, [.ref p_me_octets])), (p_me_octets, .inl (kI, 4096, .inl me_octets)), (p_pa, .inr (5, [.int pa_octets, .ref p_me, .ref (adK pa_row), .int pa_up, .int pa_aside, .ref p_pa_letters, .int pa_used])), (p_pa_letters, .inl (kI, pa_n, .inl pa_letters)), (p_di, .inr (1, [.ref p_me, .int di_wordOctets, .ref p_di_separators, .int di_entriesAt_1, .int di_size_1, .int di_entries_1])), (p_di_separators, .inl (kZ, 256, .inl di_separators_1)), (p_pr, .inr (6, [.ref p_me, .ref p_pa, .ref p_di, .int pr_counts, .ref p_pr_starts, .ref p_pr_lengths, .ref p_pr_entries, .int pr_words_1, .int pr_textFrom_1, .int pr_textEnd_1])), (p_pr_starts, .inl (kI, 255, .inl pr_starts_1)), (p_pr_lengths, .inl (kI, 255, .inl pr_lengths_1)), (p_pr_entries, .inl (kI, 255, .inl pr_entries))] H := hP.sub [9, 0, 1, 2, 3, 4, 5, 6, 7, 8] rfl
      have hD : va_D A [(p_me, .inr (4, [.ref p_me_octets])), (p_me_octets, .inl (kI, 4096, .inl me_octets)), (p_pa, .inr (5, [.int pa_octets, .ref p_me, .ref (adK pa_row), .int pa_up, .int pa_aside, .ref p_pa_letters, .int pa_used])), (p_pa_letters, .inl (kI, pa_n, .inl pa_letters)), (p_di, .inr (1, [.ref p_me, .int di_wordOctets, .ref p_di_separators, .int di_entriesAt_1, .int di_size_1, .int di_entries_1])), (p_di_separators, .inl (kZ, 256, .inl di_separators_1)), (p_pr, .inr (6, [.ref p_me, .ref p_pa, .ref p_di, .int pr_counts, .ref p_pr_starts, .ref p_pr_lengths, .ref p_pr_entries, .int pr_words_1, .int pr_textFrom_1, .int pr_textEnd_1])), (p_pr_starts, .inl (kI, 255, .inl pr_starts_1)), (p_pr_lengths, .inl (kI, 255, .inl pr_lengths_1)), (p_pr_entries, .inl (kI, 255, .inl pr_entries))] := hD.sub [9, 0, 1, 2, 3, 4, 5, 6, 7, 8] rfl rfl
      refine lv_if_ne (tgt := 69) hx hb dX6_run_63 (by decide) (fun c_ => ?_) (fun c_ => ?_)
      · have h := h.1 c_
        refine lv_iconst (v := 0) hx hb dX6_run_69 (by decide) ?_
        refine lv_istore (lv' := [(6, .int 0), (5, .int v_1), (0, .ref p_pr), (1, .int a1), (2, .int a2), (3, .int a3), (4, .int a4)]) hx hb dX6_run_70 hl (by decide) rfl (fun ls hl => ?_)
        refine h (fun (x6_1 : Int32) (pa_letters_1 : Nat → Int32) (pa_used_1 : Int32) (pr_entries_1 : Nat → Int32) => ∀ (H : Heap) (locs : List Loc), va_P (dC, dI) vwCl [(p_me, .inr (4, [.ref p_me_octets])), (p_me_octets, .inl (kI, 4096, .inl me_octets)), (p_pa, .inr (5, [.int pa_octets, .ref p_me, .ref (adK pa_row), .int pa_up, .int pa_aside, .ref p_pa_letters, .int pa_used_1])), (p_pa_letters, .inl (kI, pa_n, .inl pa_letters_1)), (p_di, .inr (1, [.ref p_me, .int di_wordOctets, .ref p_di_separators, .int di_entriesAt_1, .int di_size_1, .int di_entries_1])), (p_di_separators, .inl (kZ, 256, .inl di_separators_1)), (p_pr, .inr (6, [.ref p_me, .ref p_pa, .ref p_di, .int pr_counts, .ref p_pr_starts, .ref p_pr_lengths, .ref p_pr_entries, .int pr_words_1, .int pr_textFrom_1, .int pr_textEnd_1])), (p_pr_starts, .inl (kI, 255, .inl pr_starts_1)), (p_pr_lengths, .inl (kI, 255, .inl pr_lengths_1)), (p_pr_entries, .inl (kI, 255, .inl pr_entries_1))] H → va_D A [(p_me, .inr (4, [.ref p_me_octets])), (p_me_octets, .inl (kI, 4096, .inl me_octets)), (p_pa, .inr (5, [.int pa_octets, .ref p_me, .ref (adK pa_row), .int pa_up, .int pa_aside, .ref p_pa_letters, .int pa_used_1])), (p_pa_letters, .inl (kI, pa_n, .inl pa_letters_1)), (p_di, .inr (1, [.ref p_me, .int di_wordOctets, .ref p_di_separators, .int di_entriesAt_1, .int di_size_1, .int di_entries_1])), (p_di_separators, .inl (kZ, 256, .inl di_separators_1)), (p_pr, .inr (6, [.ref p_me, .ref p_pa, .ref p_di, .int pr_counts, .ref p_pr_starts, .ref p_pr_lengths, .ref p_pr_entries, .int pr_words_1, .int pr_textFrom_1, .int pr_textEnd_1])), (p_pr_starts, .inl (kI, 255, .inl pr_starts_1)), (p_pr_lengths, .inl (kI, 255, .inl pr_lengths_1)), (p_pr_entries, .inl (kI, 255, .inl pr_entries_1))] → va_S A s.heap H locs → ∀ ls : Array Slot, lv_has ls 7 [(0, .ref p_pr), (1, .int a1), (2, .int a2), (4, .int a4), (5, .int v_1), (6, .int x6_1)] → W p l e rmX6_run s m args below meth c H locs 0 0 Q (F0 m 72 ls [])) ?_ H locs hP hD hS ls (lv_sub hl [2, 3, 4, 6, 1, 0] rfl)
        clear h hP hD hS hl
        intro x6_1 pa_letters_1 pa_used_1 pr_entries_1 h H locs hP hD hS ls hl
        refine lv_iload hx hb dX6_run_72 (lv_at hl 5 rfl) ?_
        refine lv_iload hx hb dX6_run_74 (lv_at hl 4 rfl) ?_
        refine lv_icmp_ge (tgt := 120) hx hb dX6_run_76 (by decide) (fun c_ => ?_) (fun c_ => ?_)
        · have h := h.1 c_
          refine lv_aload_n hx hb dX6_run_120 rfl (lv_at hl 0 rfl) ?_
          refine va_get (D := (dC, dI)) (ci := 6) (v := .ref p_me) (C := RX6) (T := TX6) (N := 10) hx hb hts hi_X6 hown hK hP 6 rfl rfl 0 (by decide) (hts (.fieldLink RX6 21 "ZInput$Parser" "memory" "LZInput$Memory;") (List.mem_cons_of_mem _ (List.mem_append_left _ (List.mem_append_left _ (List.mem_append_left _ (List.mem_append_left _ (List.mem_append_left _ (List.mem_of_getElem? (i := 2) rfl)))))))) (fun _ h9 => h9) rfl dX6_run_121 ?_
          refine lv_iload_n hx hb dX6_run_124 rfl (lv_at hl 2 rfl) ?_
          refine lv_iconst (v := 1) hx hb dX6_run_125 (by decide) ?_
          refine lv_iadd hx hb dX6_run_126 ?_
          refine lv_iload hx hb dX6_run_127 (lv_at hl 4 rfl) ?_
          refine zz_Vv (As := [.int (a2 + 1), .int v_1]) (rest := []) (wr := [(p_pa, .inr (5, [.int pa_octets, .ref p_me, .ref (adK pa_row), .int pa_up, .int pa_aside, .ref p_pa_letters, .int pa_used_1])), (p_pa_letters, .inl (kI, pa_n, .inl pa_letters_1)), (p_di, .inr (1, [.ref p_me, .int di_wordOctets, .ref p_di_separators, .int di_entriesAt_1, .int di_size_1, .int di_entries_1])), (p_di_separators, .inl (kZ, 256, .inl di_separators_1)), (p_pr, .inr (6, [.ref p_me, .ref p_pa, .ref p_di, .int pr_counts, .ref p_pr_starts, .ref p_pr_lengths, .ref p_pr_entries, .int pr_words_1, .int pr_textFrom_1, .int pr_textEnd_1])), (p_pr_starts, .inl (kI, 255, .inl pr_starts_1)), (p_pr_lengths, .inl (kI, 255, .inl pr_lengths_1)), (p_pr_entries, .inl (kI, 255, .inl pr_entries_1))]) ⟨hx, hb, hml, hown, hts⟩ (cwV 2 hts gX6_run_X4_setOctet rfl rfl rfl (by decide +kernel) ⟨Nat.le_of_ble_eq_true rfl, Nat.le_of_ble_eq_true rfl⟩) hK hP hD hS hA (c_X4_setOctet l dC dI kI kZ H.size p_me p_me_octets me_octets (a2 + 1) v_1 _ h) [0, 1] [2, 3, 4, 5, 6, 7, 8, 9] rfl rfl rfl rfl (by decide) 0 rfl rfl rfl rfl hl.1 (Nat.le_of_ble_eq_true rfl) dX6_run_129 (Nat.le_refl _) (Nat.le_refl _) (fun me_octets_1 H locs h hP hD hS => ?_)
          have hP : va_P (dC, dI) vwCl [(p_me, .inr (4, [.ref p_me_octets])), (p_me_octets, .inl (kI, 4096, .inl me_octets_1)), (p_pa, .inr (5, [.int pa_octets, .ref p_me, .ref (adK pa_row), .int pa_up, .int pa_aside, .ref p_pa_letters, .int pa_used_1])), (p_pa_letters, .inl (kI, pa_n, .inl pa_letters_1)), (p_di, .inr (1, [.ref p_me, .int di_wordOctets, .ref p_di_separators, .int di_entriesAt_1, .int di_size_1, .int di_entries_1])), (p_di_separators, .inl (kZ, 256, .inl di_separators_1)), (p_pr, .inr (6, [.ref p_me, .ref p_pa, .ref p_di, .int pr_counts, .ref p_pr_starts, .ref p_pr_lengths, .ref p_pr_entries, .int pr_words_1, .int pr_textFrom_1, .int pr_textEnd_1])), (p_pr_starts, .inl (kI, 255, .inl pr_starts_1)), (p_pr_lengths, .inl (kI, 255, .inl pr_lengths_1)), (p_pr_entries, .inl (kI, 255, .inl pr_entries_1))] H := hP.sub [8, 9, 0, 1, 2, 3, 4, 5, 6, 7] rfl
          have hD : va_D A [(p_me, .inr (4, [.ref p_me_octets])), (p_me_octets, .inl (kI, 4096, .inl me_octets_1)), (p_pa, .inr (5, [.int pa_octets, .ref p_me, .ref (adK pa_row), .int pa_up, .int pa_aside, .ref p_pa_letters, .int pa_used_1])), (p_pa_letters, .inl (kI, pa_n, .inl pa_letters_1)), (p_di, .inr (1, [.ref p_me, .int di_wordOctets, .ref p_di_separators, .int di_entriesAt_1, .int di_size_1, .int di_entries_1])), (p_di_separators, .inl (kZ, 256, .inl di_separators_1)), (p_pr, .inr (6, [.ref p_me, .ref p_pa, .ref p_di, .int pr_counts, .ref p_pr_starts, .ref p_pr_lengths, .ref p_pr_entries, .int pr_words_1, .int pr_textFrom_1, .int pr_textEnd_1])), (p_pr_starts, .inl (kI, 255, .inl pr_starts_1)), (p_pr_lengths, .inl (kI, 255, .inl pr_lengths_1)), (p_pr_entries, .inl (kI, 255, .inl pr_entries_1))] := hD.sub [8, 9, 0, 1, 2, 3, 4, 5, 6, 7] rfl rfl
          refine lv_iconst (v := 0) hx hb dX6_run_132 (by decide) ?_
          refine lv_istore (lv' := [(6, .int 0), (0, .ref p_pr), (1, .int a1), (2, .int a2), (4, .int a4), (5, .int v_1)]) hx hb dX6_run_133 hl (by decide) rfl (fun ls hl => ?_)
          refine h (fun (x6_2 : Int32) (me_octets_2 : Nat → Int32) => ∀ (H : Heap) (locs : List Loc), va_P (dC, dI) vwCl [(p_me, .inr (4, [.ref p_me_octets])), (p_me_octets, .inl (kI, 4096, .inl me_octets_2)), (p_pa, .inr (5, [.int pa_octets, .ref p_me, .ref (adK pa_row), .int pa_up, .int pa_aside, .ref p_pa_letters, .int pa_used_1])), (p_pa_letters, .inl (kI, pa_n, .inl pa_letters_1)), (p_di, .inr (1, [.ref p_me, .int di_wordOctets, .ref p_di_separators, .int di_entriesAt_1, .int di_size_1, .int di_entries_1])), (p_di_separators, .inl (kZ, 256, .inl di_separators_1)), (p_pr, .inr (6, [.ref p_me, .ref p_pa, .ref p_di, .int pr_counts, .ref p_pr_starts, .ref p_pr_lengths, .ref p_pr_entries, .int pr_words_1, .int pr_textFrom_1, .int pr_textEnd_1])), (p_pr_starts, .inl (kI, 255, .inl pr_starts_1)), (p_pr_lengths, .inl (kI, 255, .inl pr_lengths_1)), (p_pr_entries, .inl (kI, 255, .inl pr_entries_1))] H → va_D A [(p_me, .inr (4, [.ref p_me_octets])), (p_me_octets, .inl (kI, 4096, .inl me_octets_2)), (p_pa, .inr (5, [.int pa_octets, .ref p_me, .ref (adK pa_row), .int pa_up, .int pa_aside, .ref p_pa_letters, .int pa_used_1])), (p_pa_letters, .inl (kI, pa_n, .inl pa_letters_1)), (p_di, .inr (1, [.ref p_me, .int di_wordOctets, .ref p_di_separators, .int di_entriesAt_1, .int di_size_1, .int di_entries_1])), (p_di_separators, .inl (kZ, 256, .inl di_separators_1)), (p_pr, .inr (6, [.ref p_me, .ref p_pa, .ref p_di, .int pr_counts, .ref p_pr_starts, .ref p_pr_lengths, .ref p_pr_entries, .int pr_words_1, .int pr_textFrom_1, .int pr_textEnd_1])), (p_pr_starts, .inl (kI, 255, .inl pr_starts_1)), (p_pr_lengths, .inl (kI, 255, .inl pr_lengths_1)), (p_pr_entries, .inl (kI, 255, .inl pr_entries_1))] → va_S A s.heap H locs → ∀ ls : Array Slot, lv_has ls 7 [(0, .ref p_pr), (1, .int a1), (2, .int a2), (4, .int a4), (5, .int v_1), (6, .int x6_2)] → W p l e rmX6_run s m args below meth c H locs 0 0 Q (F0 m 135 ls [])) ?_ H locs hP hD hS ls (lv_sub hl [1, 2, 3, 4, 5, 0] rfl)
          clear h hP hD hS hl
          intro x6_2 me_octets_2 h H locs hP hD hS ls hl
          refine lv_iload hx hb dX6_run_135 (lv_at hl 5 rfl) ?_
          refine lv_iload hx hb dX6_run_137 (lv_at hl 4 rfl) ?_
          refine lv_icmp_ge (tgt := 178) hx hb dX6_run_139 (by decide) (fun c_ => ?_) (fun c_ => ?_)
          · have h := h.1 c_
            refine lv_aload_n hx hb dX6_run_178 rfl (lv_at hl 0 rfl) ?_
            refine va_get (D := (dC, dI)) (ci := 6) (v := .int pr_words_1) (C := RX6) (T := TX6) (N := 10) hx hb hts hi_X6 hown hK hP 6 rfl rfl 7 (by decide) (hts (.fieldLink RX6 49 "ZInput$Parser" "words" "I") (List.mem_cons_of_mem _ (List.mem_append_left _ (List.mem_append_left _ (List.mem_append_left _ (List.mem_append_left _ (List.mem_append_left _ (List.mem_of_getElem? (i := 1) rfl)))))))) (fun _ h9 => h9) rfl dX6_run_179 ?_
            exact hR pr_words_1 (me_octets_2, pa_letters_1, pa_used_1, di_separators_1, di_entriesAt_1, di_size_1, di_entries_1, pr_starts_1, pr_lengths_1, pr_entries_1, pr_words_1, pr_textFrom_1, pr_textEnd_1) H locs h hP hD hS _ ls dX6_run_182
          · have h := h.2 c_
            refine lv_aload_n hx hb dX6_run_142 rfl (lv_at hl 0 rfl) ?_
            refine va_get (D := (dC, dI)) (ci := 6) (v := .ref p_pr_entries) (C := RX6) (T := TX6) (N := 10) hx hb hts hi_X6 hown hK hP 6 rfl rfl 6 (by decide) (hts (.fieldLink RX6 18 "ZInput$Parser" "entries" "[I") (List.mem_cons_of_mem _ (List.mem_append_left _ (List.mem_append_left _ (List.mem_append_left _ (List.mem_append_left _ (List.mem_append_left _ (List.mem_of_getElem? (i := 7) rfl)))))))) (fun _ h9 => h9) rfl dX6_run_143 ?_
            refine lv_iload hx hb dX6_run_146 (lv_at hl 5 rfl) ?_
            have hi := h.1
            have h := h.2
            refine va_iald hx hb hK hP 9 0 rfl rfl hi dX6_run_148 ?_
            have h := h (fun (me_octets_3 : Nat → Int32) => ∀ (H : Heap) (locs : List Loc), va_P (dC, dI) vwCl [(p_me, .inr (4, [.ref p_me_octets])), (p_me_octets, .inl (kI, 4096, .inl me_octets_3)), (p_pa, .inr (5, [.int pa_octets, .ref p_me, .ref (adK pa_row), .int pa_up, .int pa_aside, .ref p_pa_letters, .int pa_used_1])), (p_pa_letters, .inl (kI, pa_n, .inl pa_letters_1)), (p_di, .inr (1, [.ref p_me, .int di_wordOctets, .ref p_di_separators, .int di_entriesAt_1, .int di_size_1, .int di_entries_1])), (p_di_separators, .inl (kZ, 256, .inl di_separators_1)), (p_pr, .inr (6, [.ref p_me, .ref p_pa, .ref p_di, .int pr_counts, .ref p_pr_starts, .ref p_pr_lengths, .ref p_pr_entries, .int pr_words_1, .int pr_textFrom_1, .int pr_textEnd_1])), (p_pr_starts, .inl (kI, 255, .inl pr_starts_1)), (p_pr_lengths, .inl (kI, 255, .inl pr_lengths_1)), (p_pr_entries, .inl (kI, 255, .inl pr_entries_1))] H → va_D A [(p_me, .inr (4, [.ref p_me_octets])), (p_me_octets, .inl (kI, 4096, .inl me_octets_3)), (p_pa, .inr (5, [.int pa_octets, .ref p_me, .ref (adK pa_row), .int pa_up, .int pa_aside, .ref p_pa_letters, .int pa_used_1])), (p_pa_letters, .inl (kI, pa_n, .inl pa_letters_1)), (p_di, .inr (1, [.ref p_me, .int di_wordOctets, .ref p_di_separators, .int di_entriesAt_1, .int di_size_1, .int di_entries_1])), (p_di_separators, .inl (kZ, 256, .inl di_separators_1)), (p_pr, .inr (6, [.ref p_me, .ref p_pa, .ref p_di, .int pr_counts, .ref p_pr_starts, .ref p_pr_lengths, .ref p_pr_entries, .int pr_words_1, .int pr_textFrom_1, .int pr_textEnd_1])), (p_pr_starts, .inl (kI, 255, .inl pr_starts_1)), (p_pr_lengths, .inl (kI, 255, .inl pr_lengths_1)), (p_pr_entries, .inl (kI, 255, .inl pr_entries_1))] → va_S A s.heap H locs → ∀ ls : Array Slot, lv_has ls 7 [(0, .ref p_pr), (1, .int a1), (2, .int a2), (4, .int a4), (5, .int v_1), (6, .int x6_2)] → W p l e rmX6_run s m args below meth c H locs 0 0 Q (F0 m 172 ls [])) (by
              clear h hP hD hS hl
              intro me_octets_3 h H locs hP hD hS ls hl
              refine lv_iinc (v := (x6_2 + 1)) (lv' := [(6, .int (x6_2 + 1)), (0, .ref p_pr), (1, .int a1), (2, .int a2), (4, .int a4), (5, .int v_1)]) hx hb dX6_run_172 hl (k := 5) rfl rfl (by decide) rfl (fun ls hl => ?_)
              refine lv_goto (tgt := 135) hx hb dX6_run_175 (by decide) ?_
              exact h H locs hP hD hS ls (lv_sub hl [1, 2, 3, 4, 5, 0] rfl))
            have h := h (∀ (H : Heap) (locs : List Loc), va_P (dC, dI) vwCl [(p_me, .inr (4, [.ref p_me_octets])), (p_me_octets, .inl (kI, 4096, .inl me_octets_2)), (p_pa, .inr (5, [.int pa_octets, .ref p_me, .ref (adK pa_row), .int pa_up, .int pa_aside, .ref p_pa_letters, .int pa_used_1])), (p_pa_letters, .inl (kI, pa_n, .inl pa_letters_1)), (p_di, .inr (1, [.ref p_me, .int di_wordOctets, .ref p_di_separators, .int di_entriesAt_1, .int di_size_1, .int di_entries_1])), (p_di_separators, .inl (kZ, 256, .inl di_separators_1)), (p_pr, .inr (6, [.ref p_me, .ref p_pa, .ref p_di, .int pr_counts, .ref p_pr_starts, .ref p_pr_lengths, .ref p_pr_entries, .int pr_words_1, .int pr_textFrom_1, .int pr_textEnd_1])), (p_pr_starts, .inl (kI, 255, .inl pr_starts_1)), (p_pr_lengths, .inl (kI, 255, .inl pr_lengths_1)), (p_pr_entries, .inl (kI, 255, .inl pr_entries_1))] H → va_D A [(p_me, .inr (4, [.ref p_me_octets])), (p_me_octets, .inl (kI, 4096, .inl me_octets_2)), (p_pa, .inr (5, [.int pa_octets, .ref p_me, .ref (adK pa_row), .int pa_up, .int pa_aside, .ref p_pa_letters, .int pa_used_1])), (p_pa_letters, .inl (kI, pa_n, .inl pa_letters_1)), (p_di, .inr (1, [.ref p_me, .int di_wordOctets, .ref p_di_separators, .int di_entriesAt_1, .int di_size_1, .int di_entries_1])), (p_di_separators, .inl (kZ, 256, .inl di_separators_1)), (p_pr, .inr (6, [.ref p_me, .ref p_pa, .ref p_di, .int pr_counts, .ref p_pr_starts, .ref p_pr_lengths, .ref p_pr_entries, .int pr_words_1, .int pr_textFrom_1, .int pr_textEnd_1])), (p_pr_starts, .inl (kI, 255, .inl pr_starts_1)), (p_pr_lengths, .inl (kI, 255, .inl pr_lengths_1)), (p_pr_entries, .inl (kI, 255, .inl pr_entries_1))] → va_S A s.heap H locs → ∀ ls : Array Slot, lv_has ls 7 [(0, .ref p_pr), (1, .int a1), (2, .int a2), (4, .int a4), (5, .int v_1), (6, .int x6_2)] → W p l e rmX6_run s m args below meth c H locs 0 0 Q (F0 m 157 ls [])) (by
              clear h hP hD hS hl
              intro h H locs hP hD hS ls hl
              refine lv_aload_n hx hb dX6_run_157 rfl (lv_at hl 0 rfl) ?_
              refine lv_iload hx hb dX6_run_158 (lv_at hl 5 rfl) ?_
              refine lv_iload_n hx hb dX6_run_160 rfl (lv_at hl 2 rfl) ?_
              refine lv_iconst (v := 2) hx hb dX6_run_161 (by decide) ?_
              refine lv_iadd hx hb dX6_run_162 ?_
              refine lv_iconst (v := 4) hx hb dX6_run_163 (by decide) ?_
              refine lv_iload hx hb dX6_run_164 (lv_at hl 5 rfl) ?_
              refine lv_imul hx hb dX6_run_166 ?_
              refine lv_iadd hx hb dX6_run_167 ?_
              refine lv_iload_n hx hb dX6_run_168 rfl (lv_at hl 1 rfl) ?_
              refine zz_Vv (As := [.int x6_2, .int ((a2 + 2) + (4 * x6_2)), .int a1]) (rest := []) (wr := [(p_pa, .inr (5, [.int pa_octets, .ref p_me, .ref (adK pa_row), .int pa_up, .int pa_aside, .ref p_pa_letters, .int pa_used_1])), (p_pa_letters, .inl (kI, pa_n, .inl pa_letters_1)), (p_di, .inr (1, [.ref p_me, .int di_wordOctets, .ref p_di_separators, .int di_entriesAt_1, .int di_size_1, .int di_entries_1])), (p_di_separators, .inl (kZ, 256, .inl di_separators_1))]) ⟨hx, hb, hml, hown, hts⟩ (cwV 3 hts gX6_run_X6_tellWord rfl rfl rfl (by decide +kernel) ⟨Nat.le_of_ble_eq_true rfl, Nat.le_of_ble_eq_true rfl⟩) hK hP hD hS hA (c_X6_tellWord l dC dI kI kZ H.size p_me p_me_octets p_pr p_pa p_di p_pr_starts p_pr_lengths p_pr_entries pr_counts pr_words_1 pr_textFrom_1 pr_textEnd_1 me_octets_2 pr_starts_1 pr_lengths_1 pr_entries_1 x6_2 ((a2 + 2) + (4 * x6_2)) a1 _ h) [0, 1, 6, 7, 8, 9] [2, 3, 4, 5] rfl rfl rfl rfl (by decide) 2 rfl rfl rfl rfl hl.1 (Nat.le_of_ble_eq_true rfl) dX6_run_169 (Nat.le_refl _) (Nat.le_refl _) (fun me_octets_4 H locs h hP hD hS => ?_)
              have hP : va_P (dC, dI) vwCl [(p_me, .inr (4, [.ref p_me_octets])), (p_me_octets, .inl (kI, 4096, .inl me_octets_4)), (p_pa, .inr (5, [.int pa_octets, .ref p_me, .ref (adK pa_row), .int pa_up, .int pa_aside, .ref p_pa_letters, .int pa_used_1])), (p_pa_letters, .inl (kI, pa_n, .inl pa_letters_1)), (p_di, .inr (1, [.ref p_me, .int di_wordOctets, .ref p_di_separators, .int di_entriesAt_1, .int di_size_1, .int di_entries_1])), (p_di_separators, .inl (kZ, 256, .inl di_separators_1)), (p_pr, .inr (6, [.ref p_me, .ref p_pa, .ref p_di, .int pr_counts, .ref p_pr_starts, .ref p_pr_lengths, .ref p_pr_entries, .int pr_words_1, .int pr_textFrom_1, .int pr_textEnd_1])), (p_pr_starts, .inl (kI, 255, .inl pr_starts_1)), (p_pr_lengths, .inl (kI, 255, .inl pr_lengths_1)), (p_pr_entries, .inl (kI, 255, .inl pr_entries_1))] H := hP.sub [4, 5, 0, 1, 2, 3, 6, 7, 8, 9] rfl
              have hD : va_D A [(p_me, .inr (4, [.ref p_me_octets])), (p_me_octets, .inl (kI, 4096, .inl me_octets_4)), (p_pa, .inr (5, [.int pa_octets, .ref p_me, .ref (adK pa_row), .int pa_up, .int pa_aside, .ref p_pa_letters, .int pa_used_1])), (p_pa_letters, .inl (kI, pa_n, .inl pa_letters_1)), (p_di, .inr (1, [.ref p_me, .int di_wordOctets, .ref p_di_separators, .int di_entriesAt_1, .int di_size_1, .int di_entries_1])), (p_di_separators, .inl (kZ, 256, .inl di_separators_1)), (p_pr, .inr (6, [.ref p_me, .ref p_pa, .ref p_di, .int pr_counts, .ref p_pr_starts, .ref p_pr_lengths, .ref p_pr_entries, .int pr_words_1, .int pr_textFrom_1, .int pr_textEnd_1])), (p_pr_starts, .inl (kI, 255, .inl pr_starts_1)), (p_pr_lengths, .inl (kI, 255, .inl pr_lengths_1)), (p_pr_entries, .inl (kI, 255, .inl pr_entries_1))] := hD.sub [4, 5, 0, 1, 2, 3, 6, 7, 8, 9] rfl rfl
              exact h H locs hP hD hS ls (lv_sub hl [0, 1, 2, 3, 4, 5] rfl))
            refine lv_if_ne (tgt := 157) hx hb dX6_run_149 (by decide) (fun c_ => ?_) (fun c_ => ?_)
            · have h := h.1 c_
              exact h H locs hP hD hS ls (lv_sub hl [0, 1, 2, 3, 4, 5] rfl)
            · have h := h.2 c_
              refine lv_iload hx hb dX6_run_152 (lv_at hl 3 rfl) ?_
              refine lv_if_ne (tgt := 172) hx hb dX6_run_154 (by decide) (fun c_ => ?_) (fun c_ => ?_)
              · have h := h.1 c_
                exact h H locs hP hD hS ls (lv_sub hl [0, 1, 2, 3, 4, 5] rfl)
              · have h := h.2 c_
                exact h H locs hP hD hS ls (lv_sub hl [0, 1, 2, 3, 4, 5] rfl)
        · have h := h.2 c_
          refine lv_aload_n hx hb dX6_run_79 rfl (lv_at hl 0 rfl) ?_
          refine va_get (D := (dC, dI)) (ci := 6) (v := .ref p_pr_entries) (C := RX6) (T := TX6) (N := 10) hx hb hts hi_X6 hown hK hP 6 rfl rfl 6 (by decide) (hts (.fieldLink RX6 18 "ZInput$Parser" "entries" "[I") (List.mem_cons_of_mem _ (List.mem_append_left _ (List.mem_append_left _ (List.mem_append_left _ (List.mem_append_left _ (List.mem_append_left _ (List.mem_of_getElem? (i := 7) rfl)))))))) (fun _ h9 => h9) rfl dX6_run_80 ?_
          refine lv_iload hx hb dX6_run_83 (lv_at hl 5 rfl) ?_
          refine lv_aload_n hx hb dX6_run_85 rfl (lv_at hl 0 rfl) ?_
          refine va_get (D := (dC, dI)) (ci := 6) (v := .ref p_di) (C := RX6) (T := TX6) (N := 10) hx hb hts hi_X6 hown hK hP 6 rfl rfl 2 (by decide) (hts (.fieldLink RX6 29 "ZInput$Parser" "dictionary" "LZInput$Dictionary;") (List.mem_cons_of_mem _ (List.mem_append_left _ (List.mem_append_left _ (List.mem_append_left _ (List.mem_append_left _ (List.mem_append_left _ (List.mem_of_getElem? (i := 0) rfl)))))))) (fun _ h9 => h9) rfl dX6_run_86 ?_
          refine lv_aload_n hx hb dX6_run_89 rfl (lv_at hl 0 rfl) ?_
          refine va_get (D := (dC, dI)) (ci := 6) (v := .ref p_pa) (C := RX6) (T := TX6) (N := 10) hx hb hts hi_X6 hown hK hP 6 rfl rfl 1 (by decide) (hts (.fieldLink RX6 25 "ZInput$Parser" "packer" "LZInput$Packer;") (List.mem_cons_of_mem _ (List.mem_append_left _ (List.mem_append_left _ (List.mem_append_left _ (List.mem_append_left _ (List.mem_append_left _ (List.mem_of_getElem? (i := 8) rfl)))))))) (fun _ h9 => h9) rfl dX6_run_90 ?_
          refine lv_aload_n hx hb dX6_run_93 rfl (lv_at hl 0 rfl) ?_
          refine va_get (D := (dC, dI)) (ci := 6) (v := .ref p_pr_starts) (C := RX6) (T := TX6) (N := 10) hx hb hts hi_X6 hown hK hP 6 rfl rfl 4 (by decide) (hts (.fieldLink RX6 11 "ZInput$Parser" "starts" "[I") (List.mem_cons_of_mem _ (List.mem_append_left _ (List.mem_append_left _ (List.mem_append_left _ (List.mem_append_left _ (List.mem_append_left _ (List.mem_of_getElem? (i := 9) rfl)))))))) (fun _ h9 => h9) rfl dX6_run_94 ?_
          refine lv_iload hx hb dX6_run_97 (lv_at hl 5 rfl) ?_
          have hi := h.1
          have h := h.2
          refine va_iald hx hb hK hP 7 0 rfl rfl hi dX6_run_99 ?_
          refine lv_aload_n hx hb dX6_run_100 rfl (lv_at hl 0 rfl) ?_
          refine va_get (D := (dC, dI)) (ci := 6) (v := .ref p_pr_lengths) (C := RX6) (T := TX6) (N := 10) hx hb hts hi_X6 hown hK hP 6 rfl rfl 5 (by decide) (hts (.fieldLink RX6 15 "ZInput$Parser" "lengths" "[I") (List.mem_cons_of_mem _ (List.mem_append_left _ (List.mem_append_left _ (List.mem_append_left _ (List.mem_append_left _ (List.mem_append_left _ (List.mem_of_getElem? (i := 10) rfl)))))))) (fun _ h9 => h9) rfl dX6_run_101 ?_
          refine lv_iload hx hb dX6_run_104 (lv_at hl 5 rfl) ?_
          have hi := h.1
          have h := h.2
          refine va_iald hx hb hK hP 8 0 rfl rfl hi dX6_run_106 ?_
          refine zz_VlG (As := [.int (pr_starts_1 (Int32.toNatClampNeg x6_1)), .int (pr_lengths_1 (Int32.toNatClampNeg x6_1))]) (rest := [.ref p_di, .int x6_1, .ref p_pr_entries]) (wr := [(p_di, .inr (1, [.ref p_me, .int di_wordOctets, .ref p_di_separators, .int di_entriesAt_1, .int di_size_1, .int di_entries_1])), (p_di_separators, .inl (kZ, 256, .inl di_separators_1)), (p_pr, .inr (6, [.ref p_me, .ref p_pa, .ref p_di, .int pr_counts, .ref p_pr_starts, .ref p_pr_lengths, .ref p_pr_entries, .int pr_words_1, .int pr_textFrom_1, .int pr_textEnd_1])), (p_pr_starts, .inl (kI, 255, .inl pr_starts_1)), (p_pr_lengths, .inl (kI, 255, .inl pr_lengths_1)), (p_pr_entries, .inl (kI, 255, .inl pr_entries_1))]) ⟨hx, hb, hml, hown, hts⟩ (cwV 2 hts gX6_run_X5_packed rfl rfl rfl (by decide +kernel) ⟨Nat.le_of_ble_eq_true rfl, Nat.le_of_ble_eq_true rfl⟩) hK hP hD hS hA hG hAA (c_X5_packed l dC dI kI kZ H.size A0 adK adV (fun q hq => hAA q (hA q (Nat.le_trans hS.1 hq))) p_me p_me_octets p_pa p_pa_letters pa_octets me_octets pa_row pa_up pa_aside pa_letters_1 pa_used_1 pa_n (pr_starts_1 (Int32.toNatClampNeg x6_1)) (pr_lengths_1 (Int32.toNatClampNeg x6_1)) _ h) [0, 1, 2, 3] [4, 5, 6, 7, 8, 9] rfl rfl rfl rfl (by decide) 2 rfl rfl rfl rfl hl.1 (Nat.le_of_ble_eq_true rfl) dX6_run_107 (Nat.le_refl _) (Nat.le_refl _) (fun r_5 u_6 H locs h hP hD hS => ?_)
          obtain ⟨pa_letters_2, pa_used_2⟩ := u_6
          have hP : va_P (dC, dI) vwCl [(p_me, .inr (4, [.ref p_me_octets])), (p_me_octets, .inl (kI, 4096, .inl me_octets)), (p_pa, .inr (5, [.int pa_octets, .ref p_me, .ref (adK pa_row), .int pa_up, .int pa_aside, .ref p_pa_letters, .int pa_used_2])), (p_pa_letters, .inl (kI, pa_n, .inl pa_letters_2)), (p_di, .inr (1, [.ref p_me, .int di_wordOctets, .ref p_di_separators, .int di_entriesAt_1, .int di_size_1, .int di_entries_1])), (p_di_separators, .inl (kZ, 256, .inl di_separators_1)), (p_pr, .inr (6, [.ref p_me, .ref p_pa, .ref p_di, .int pr_counts, .ref p_pr_starts, .ref p_pr_lengths, .ref p_pr_entries, .int pr_words_1, .int pr_textFrom_1, .int pr_textEnd_1])), (p_pr_starts, .inl (kI, 255, .inl pr_starts_1)), (p_pr_lengths, .inl (kI, 255, .inl pr_lengths_1)), (p_pr_entries, .inl (kI, 255, .inl pr_entries_1))] H := hP.sub [6, 7, 8, 9, 0, 1, 2, 3, 4, 5] rfl
          have hD : va_D A [(p_me, .inr (4, [.ref p_me_octets])), (p_me_octets, .inl (kI, 4096, .inl me_octets)), (p_pa, .inr (5, [.int pa_octets, .ref p_me, .ref (adK pa_row), .int pa_up, .int pa_aside, .ref p_pa_letters, .int pa_used_2])), (p_pa_letters, .inl (kI, pa_n, .inl pa_letters_2)), (p_di, .inr (1, [.ref p_me, .int di_wordOctets, .ref p_di_separators, .int di_entriesAt_1, .int di_size_1, .int di_entries_1])), (p_di_separators, .inl (kZ, 256, .inl di_separators_1)), (p_pr, .inr (6, [.ref p_me, .ref p_pa, .ref p_di, .int pr_counts, .ref p_pr_starts, .ref p_pr_lengths, .ref p_pr_entries, .int pr_words_1, .int pr_textFrom_1, .int pr_textEnd_1])), (p_pr_starts, .inl (kI, 255, .inl pr_starts_1)), (p_pr_lengths, .inl (kI, 255, .inl pr_lengths_1)), (p_pr_entries, .inl (kI, 255, .inl pr_entries_1))] := hD.sub [6, 7, 8, 9, 0, 1, 2, 3, 4, 5] rfl rfl
          refine zz_Vi (As := [.long r_5]) (rest := [.int x6_1, .ref p_pr_entries]) (wr := [(p_pa, .inr (5, [.int pa_octets, .ref p_me, .ref (adK pa_row), .int pa_up, .int pa_aside, .ref p_pa_letters, .int pa_used_2])), (p_pa_letters, .inl (kI, pa_n, .inl pa_letters_2)), (p_di_separators, .inl (kZ, 256, .inl di_separators_1)), (p_pr, .inr (6, [.ref p_me, .ref p_pa, .ref p_di, .int pr_counts, .ref p_pr_starts, .ref p_pr_lengths, .ref p_pr_entries, .int pr_words_1, .int pr_textFrom_1, .int pr_textEnd_1])), (p_pr_starts, .inl (kI, 255, .inl pr_starts_1)), (p_pr_lengths, .inl (kI, 255, .inl pr_lengths_1)), (p_pr_entries, .inl (kI, 255, .inl pr_entries_1))]) ⟨hx, hb, hml, hown, hts⟩ (cwV 1 hts gX6_run_X1_entryOf rfl rfl rfl (by decide +kernel) ⟨Nat.le_of_ble_eq_true rfl, Nat.le_of_ble_eq_true rfl⟩) hK hP hD hS hA (c_X1_entryOf l dC dI kI kZ H.size p_me p_me_octets p_di p_di_separators me_octets di_wordOctets di_entriesAt_1 di_size_1 di_entries_1 r_5 _ h) [0, 1, 4] [2, 3, 5, 6, 7, 8, 9] rfl rfl rfl rfl (by decide) 2 rfl rfl rfl rfl hl.1 (Nat.le_of_ble_eq_true rfl) dX6_run_110 (Nat.le_refl _) (Nat.le_refl _) (fun r_6 u_7 H locs h hP hD hS => ?_)
          have hP : va_P (dC, dI) vwCl [(p_me, .inr (4, [.ref p_me_octets])), (p_me_octets, .inl (kI, 4096, .inl me_octets)), (p_pa, .inr (5, [.int pa_octets, .ref p_me, .ref (adK pa_row), .int pa_up, .int pa_aside, .ref p_pa_letters, .int pa_used_2])), (p_pa_letters, .inl (kI, pa_n, .inl pa_letters_2)), (p_di, .inr (1, [.ref p_me, .int di_wordOctets, .ref p_di_separators, .int di_entriesAt_1, .int di_size_1, .int di_entries_1])), (p_di_separators, .inl (kZ, 256, .inl di_separators_1)), (p_pr, .inr (6, [.ref p_me, .ref p_pa, .ref p_di, .int pr_counts, .ref p_pr_starts, .ref p_pr_lengths, .ref p_pr_entries, .int pr_words_1, .int pr_textFrom_1, .int pr_textEnd_1])), (p_pr_starts, .inl (kI, 255, .inl pr_starts_1)), (p_pr_lengths, .inl (kI, 255, .inl pr_lengths_1)), (p_pr_entries, .inl (kI, 255, .inl pr_entries_1))] H := hP.sub [7, 8, 0, 1, 9, 2, 3, 4, 5, 6] rfl
          have hD : va_D A [(p_me, .inr (4, [.ref p_me_octets])), (p_me_octets, .inl (kI, 4096, .inl me_octets)), (p_pa, .inr (5, [.int pa_octets, .ref p_me, .ref (adK pa_row), .int pa_up, .int pa_aside, .ref p_pa_letters, .int pa_used_2])), (p_pa_letters, .inl (kI, pa_n, .inl pa_letters_2)), (p_di, .inr (1, [.ref p_me, .int di_wordOctets, .ref p_di_separators, .int di_entriesAt_1, .int di_size_1, .int di_entries_1])), (p_di_separators, .inl (kZ, 256, .inl di_separators_1)), (p_pr, .inr (6, [.ref p_me, .ref p_pa, .ref p_di, .int pr_counts, .ref p_pr_starts, .ref p_pr_lengths, .ref p_pr_entries, .int pr_words_1, .int pr_textFrom_1, .int pr_textEnd_1])), (p_pr_starts, .inl (kI, 255, .inl pr_starts_1)), (p_pr_lengths, .inl (kI, 255, .inl pr_lengths_1)), (p_pr_entries, .inl (kI, 255, .inl pr_entries_1))] := hD.sub [7, 8, 0, 1, 9, 2, 3, 4, 5, 6] rfl rfl
          have hi := h.1
          have h := h.2
          refine va_iast hx hb hK hP hD hS 9 0 rfl rfl hi dX6_run_113 (fun H locs hP hD hS => ?_)
          have hP : va_P (dC, dI) vwCl [(p_me, .inr (4, [.ref p_me_octets])), (p_me_octets, .inl (kI, 4096, .inl me_octets)), (p_pa, .inr (5, [.int pa_octets, .ref p_me, .ref (adK pa_row), .int pa_up, .int pa_aside, .ref p_pa_letters, .int pa_used_2])), (p_pa_letters, .inl (kI, pa_n, .inl pa_letters_2)), (p_di, .inr (1, [.ref p_me, .int di_wordOctets, .ref p_di_separators, .int di_entriesAt_1, .int di_size_1, .int di_entries_1])), (p_di_separators, .inl (kZ, 256, .inl di_separators_1)), (p_pr, .inr (6, [.ref p_me, .ref p_pa, .ref p_di, .int pr_counts, .ref p_pr_starts, .ref p_pr_lengths, .ref p_pr_entries, .int pr_words_1, .int pr_textFrom_1, .int pr_textEnd_1])), (p_pr_starts, .inl (kI, 255, .inl pr_starts_1)), (p_pr_lengths, .inl (kI, 255, .inl pr_lengths_1)), (p_pr_entries, .inl (kI, 255, .inl (upd pr_entries_1 (Int32.toNatClampNeg x6_1) r_6)))] H := hP
          have hD : va_D A [(p_me, .inr (4, [.ref p_me_octets])), (p_me_octets, .inl (kI, 4096, .inl me_octets)), (p_pa, .inr (5, [.int pa_octets, .ref p_me, .ref (adK pa_row), .int pa_up, .int pa_aside, .ref p_pa_letters, .int pa_used_2])), (p_pa_letters, .inl (kI, pa_n, .inl pa_letters_2)), (p_di, .inr (1, [.ref p_me, .int di_wordOctets, .ref p_di_separators, .int di_entriesAt_1, .int di_size_1, .int di_entries_1])), (p_di_separators, .inl (kZ, 256, .inl di_separators_1)), (p_pr, .inr (6, [.ref p_me, .ref p_pa, .ref p_di, .int pr_counts, .ref p_pr_starts, .ref p_pr_lengths, .ref p_pr_entries, .int pr_words_1, .int pr_textFrom_1, .int pr_textEnd_1])), (p_pr_starts, .inl (kI, 255, .inl pr_starts_1)), (p_pr_lengths, .inl (kI, 255, .inl pr_lengths_1)), (p_pr_entries, .inl (kI, 255, .inl (upd pr_entries_1 (Int32.toNatClampNeg x6_1) r_6)))] := hD
          refine lv_iinc (v := (x6_1 + 1)) (lv' := [(6, .int (x6_1 + 1)), (0, .ref p_pr), (1, .int a1), (2, .int a2), (4, .int a4), (5, .int v_1)]) hx hb dX6_run_114 hl (k := 5) rfl rfl (by decide) rfl (fun ls hl => ?_)
          refine lv_goto (tgt := 72) hx hb dX6_run_117 (by decide) ?_
          exact h H locs hP hD hS ls (lv_sub hl [1, 2, 3, 4, 5, 0] rfl)
      · have h := h.2 c_
        refine lv_bipush (v := (-3)) hx hb dX6_run_66 (by decide) ?_
        exact hR (-3) (me_octets, pa_letters, pa_used, di_separators_1, di_entriesAt_1, di_size_1, di_entries_1, pr_starts_1, pr_lengths_1, pr_entries, pr_words_1, pr_textFrom_1, pr_textEnd_1) H locs h hP hD hS _ ls dX6_run_68
    · have h := h.2 c_
      refine lv_bipush (v := (-3)) hx hb dX6_run_19 (by decide) ?_
      exact hR (-3) (me_octets, pa_letters, pa_used, di_separators_1, di_entriesAt_1, di_size_1, di_entries_1, pr_starts, pr_lengths, pr_entries, pr_words, pr_textFrom_1, pr_textEnd_1) H locs h hP hD hS _ ls dX6_run_21
