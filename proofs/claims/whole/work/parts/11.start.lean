-- the start: classes, array classes, the String constants; then the law's walk
def tmS (i : Nat) : Term := if i = 0 then .string "ZInput$Packer" 15 else .string "ZInput$Packer" 17
theorem mS_ex : ∀ i, i < 2 → Cond.exactly (tmS i) "java/lang/String" ∈ flatC (Jvm.Cond.and given_1 narrow_1) := by decide +kernel
theorem mS_co : ∀ i, i < 2 → Cond.eq (.field (tmS i) "java/lang/String" "coder" "B") (.int 0) ∈ flatC (Jvm.Cond.and given_1 narrow_1) := by decide +kernel
theorem mS_ar : ∀ i, i < 2 → Cond.arrayOf (.field (tmS i) "java/lang/String" "value" "[B") .byte ∈ flatC (Jvm.Cond.and given_1 narrow_1) := by decide +kernel
theorem mS_le : ∀ i, i < 2 → Cond.eq (.length (.field (tmS i) "java/lang/String" "value" "[B")) (.int (Int32.ofNat (lenS.getD i 0))) ∈ flatC (Jvm.Cond.and given_1 narrow_1) := by decide +kernel
theorem mS_el : ∀ i, i < 2 → ∀ j, j < lenS.getD i 0 → Cond.eq (.elem (.field (tmS i) "java/lang/String" "value" "[B") (.int (Int32.ofNat j))) (.int ((bytS.getD i []).getD j 0)) ∈ flatC (Jvm.Cond.and given_1 narrow_1) := by decide +kernel
theorem mS_ne : ∀ i, i < 2 → ∀ j, j < 2 → i ≠ j → (Cond.not (Cond.eq (tmS i) (tmS j)) ∈ flatC (Jvm.Cond.and given_1 narrow_1) ∨ Cond.not (Cond.eq (tmS j) (tmS i)) ∈ flatC (Jvm.Cond.and given_1 narrow_1)) := by decide +kernel
theorem mS_cs : Cond.eq (.static "java/lang/String" "COMPACT_STRINGS" "Z") (.int 1) ∈ flatC (Jvm.Cond.and given_1 narrow_1) := by decide +kernel
theorem mT_ls : Cond.laysStatic "java/lang/String" "COMPACT_STRINGS" "Z" ∈ lw_tbl := by decide +kernel
theorem mT_in : Cond.initialized "java/lang/String" ∈ lw_tbl := by decide +kernel
theorem mT_s0 : Cond.stringRef RX5 15 txS0 ∈ lw_tbl := by decide +kernel
theorem mT_s1 : Cond.stringRef RX5 17 txS1 ∈ lw_tbl := by decide +kernel
theorem mT_aI : Cond.arrayClass .int ∈ lw_tbl := by decide +kernel
theorem mT_aZ : Cond.arrayClass .boolean ∈ lw_tbl := by decide +kernel
theorem mT_n9 : Cond.methodLinkNest RX9 9 yX4_init RX9 ∈ lw_tbl := by decide +kernel
theorem mT_n50 : Cond.methodLinkNest RX9 50 yX7_init RX9 ∈ lw_tbl := by decide +kernel
theorem mT_n57 : Cond.methodLinkNest RX9 57 yX0_init RX9 ∈ lw_tbl := by decide +kernel
theorem mT_n64 : Cond.methodLinkNest RX9 64 yX3_init RX9 ∈ lw_tbl := by decide +kernel
theorem mT_n71 : Cond.methodLinkNest RX9 71 yX2_init RX9 ∈ lw_tbl := by decide +kernel
theorem mT_n78 : Cond.methodLinkNest RX9 78 yX8_init RX9 ∈ lw_tbl := by decide +kernel
theorem mT_iX0 : Cond.instantiable RX0 6 ∈ lw_tbl := by decide +kernel
theorem mT_iX1 : Cond.instantiable RX1 6 ∈ lw_tbl := by decide +kernel
theorem mT_iX2 : Cond.instantiable RX2 2 ∈ lw_tbl := by decide +kernel
theorem mT_iX3 : Cond.instantiable RX3 4 ∈ lw_tbl := by decide +kernel
theorem mT_iX4 : Cond.instantiable RX4 1 ∈ lw_tbl := by decide +kernel
theorem mT_iX5 : Cond.instantiable RX5 7 ∈ lw_tbl := by decide +kernel
theorem mT_iX6 : Cond.instantiable RX6 10 ∈ lw_tbl := by decide +kernel
theorem mT_iX7 : Cond.instantiable RX7 7 ∈ lw_tbl := by decide +kernel
theorem mT_iX8 : Cond.instantiable RX8 3 ∈ lw_tbl := by decide +kernel
theorem mT_iX9 : Cond.instantiable RX9 13 ∈ lw_tbl := by decide +kernel
theorem mT_iX10 : Cond.instantiable RX10 33 ∈ lw_tbl := by decide +kernel
theorem arr_of {args : Array Value} {s : State} {ty : FieldType} (h : (Cond.arrayClass ty).before args s = true) : ∃ cA : ClassId, ArrOfT s cA ty ∧ s.vm.findClass ("[" ++ ty.toString) = some cA := by
  obtain ⟨cA, kA, comp, h1, h2, h3⟩ := Cond.arrayClass_spec h
  exact ⟨cA, fun n z => ⟨fun k h => (by cases h), kA, h2, comp, h3⟩, h1⟩
set_option maxHeartbeats 4000000 in
set_option maxRecDepth 100000 in
theorem start_of {p : Program} {e : Env} {s : State} {m : MethodId} {below : List Frame} {meth : Method} {c : Code} (l : Launch) {b L : Nat} {xs : Nat → Int32} (C0 : lw_At p s m meth c b L xs) (h : wp_L_law L xs (fun r => r = 1)) : W p l e room_1 s m #[Value.ref b] below meth c s.heap [] 0 0 (lw_Z below #[Value.ref b] s) (entryFrame m ([Value.ref b] : List Value).toArray 4) := by
  obtain ⟨hx, hb, hr, hml, hown, hts, hX, hbl, hlocks, hgv⟩ := id C0
  obtain ⟨c0, i0, k0⟩ := u_known (C := RX0) (T := TX0) (N := 6) (n := 6) hts lwin_X0 (hts _ mT_iX0)
  obtain ⟨c1, i1, k1⟩ := u_known (C := RX1) (T := TX1) (N := 6) (n := 6) hts lwin_X1 (hts _ mT_iX1)
  obtain ⟨c2, i2, k2⟩ := u_known (C := RX2) (T := TX2) (N := 2) (n := 2) hts lwin_X2 (hts _ mT_iX2)
  obtain ⟨c3, i3, k3⟩ := u_known (C := RX3) (T := TX3) (N := 4) (n := 4) hts lwin_X3 (hts _ mT_iX3)
  obtain ⟨c4, i4, k4⟩ := u_known (C := RX4) (T := TX4) (N := 1) (n := 1) hts lwin_X4 (hts _ mT_iX4)
  obtain ⟨c5, i5, k5⟩ := u_known (C := RX5) (T := TX5) (N := 7) (n := 7) hts lwin_X5 (hts _ mT_iX5)
  obtain ⟨c6, i6, k6⟩ := u_known (C := RX6) (T := TX6) (N := 10) (n := 10) hts lwin_X6 (hts _ mT_iX6)
  obtain ⟨c7, i7, k7⟩ := u_known (C := RX7) (T := TX7) (N := 7) (n := 7) hts lwin_X7 (hts _ mT_iX7)
  obtain ⟨c8, i8, k8⟩ := u_known (C := RX8) (T := TX8) (N := 3) (n := 3) hts lwin_X8 (hts _ mT_iX8)
  obtain ⟨c9, i9, k9⟩ := u_known (C := RX9) (T := TX9) (N := 13) (n := 13) hts lwin_X9 (hts _ mT_iX9)
  obtain ⟨c10, i10, k10⟩ := u_known (C := RX10) (T := TX10) (N := 33) (n := 33) hts lwin_X10 (hts _ mT_iX10)
  obtain ⟨dC, dI, hKc⟩ : ∃ (dC : Nat → ClassId) (dI : Nat → Nat → Nat), ∀ (k : Nat) (q : vw_C), vwCl[k]? = some q → u_Kn s q.1 q.2.1 q.2.2 (dC k) (dI k) := by
    refine ⟨fun k => [c0, c1, c2, c3, c4, c5, c6, c7, c8, c9, c10].getD k c0, fun k => [i0, i1, i2, i3, i4, i5, i6, i7, i8, i9, i10].getD k i0, ?_⟩
    intro k q hq
    match k, hq with
    | 0, hq => cases hq; exact k0
    | 1, hq => cases hq; exact k1
    | 2, hq => cases hq; exact k2
    | 3, hq => cases hq; exact k3
    | 4, hq => cases hq; exact k4
    | 5, hq => cases hq; exact k5
    | 6, hq => cases hq; exact k6
    | 7, hq => cases hq; exact k7
    | 8, hq => cases hq; exact k8
    | 9, hq => cases hq; exact k9
    | 10, hq => cases hq; exact k10
    | k + 11, hq => simp [vwCl] at hq
  obtain ⟨kI, aI1, aI2⟩ := arr_of (hts _ mT_aI)
  obtain ⟨kZ, aZ1, aZ2⟩ := arr_of (hts _ mT_aZ)
  have hK : va_K (dC, dI) vwCl (zT kI kZ) s := by
    refine ⟨hKc, fun k q hq => ?_⟩
    match k, hq with
    | 0, hq => cases hq; exact ⟨aI1, aI2⟩
    | 1, hq => cases hq; exact ⟨aZ1, aZ2⟩
    | k + 2, hq => simp [zT] at hq
  have hs := flat_of_before _ hgv
  have hA0 : ∀ a : Nat, a < s.heap.size → ¬ (fun q : Nat => s.heap.size ≤ q) a := fun a h => Nat.not_le.mpr h
  obtain ⟨adK, adV, hSS, hev⟩ := vk_Sof (N := 2) (tm := tmS) (len := lenS) (byt := bytS) (A := fun q : Nat => s.heap.size ≤ q) (by decide +kernel) (fun i hi => hs _ (mS_ex i hi)) (fun i hi => hs _ (mS_co i hi)) (fun i hi => hs _ (mS_ar i hi)) (fun i hi => hs _ (mS_le i hi)) (fun i hi j hj => hs _ (mS_el i hi j hj)) (fun i j hi hj hij => (mS_ne i hi j hj hij).imp (hs _) (hs _)) hA0
  have hG : zG (fun q : Nat => s.heap.size ≤ q) adK adV s := ⟨va_Zof (hts _ mT_ls) (hts _ mT_in) (va_eqi (hs _ mS_cs)) hA0, hSS, vk_R.of (hts _ mT_s0) (hev 0 (by decide)), vk_R.of (hts _ mT_s1) (hev 1 (by decide)), va_Nw.of rfl (hts _ mT_n9), va_Nw.of rfl (hts _ mT_n50), va_Nw.of rfl (hts _ mT_n57), va_Nw.of rfl (hts _ mT_n64), va_Nw.of rfl (hts _ mT_n71), va_Nw.of rfl (hts _ mT_n78)⟩
  exact law_walk l C0 wsL_law_in dC dI kI kZ adK adV hK hG h
