-- PURE 12: parsing, the reference's way
def pmS (L138 : Int32 → Int32 → (Nat → Int32) → (Nat → Int32) → Prop) (mo_memory : Nat → Int32) (a3 x7_1 x8_1 : Int32) (mo_wordFrom_1 mo_wordSize_1 : Nat → Int32) (x9_1 : Int32) : Prop :=
  ∀ J220 : Int32 → Prop, (∀ (x9_2 : Int32), (∀ J246 : Int32 → (Nat → Int32) → (Nat → Int32) → Prop, (∀ (x7_2 : Int32) (mo_wordFrom_2 : Nat → Int32) (mo_wordSize_2 : Nat → Int32), (∀ J259 : Int32 → Int32 → Prop, (∀ (y_4 : Int32) (y_5 : Int32), (∀ v_3 : Int32, v_3 = (y_5 + y_4) → (L138 x7_2 v_3 mo_wordFrom_2 mo_wordSize_2)) → J259 y_4 y_5) → (((x9_2 ≤ 0) → (J259 1 x8_1)) ∧ ((¬ x9_2 ≤ 0) → (J259 x9_2 x8_1)))) → J246 x7_2 mo_wordFrom_2 mo_wordSize_2) → (((x9_2 ≤ 0) → (J246 x7_1 mo_wordFrom_1 mo_wordSize_1)) ∧ ((¬ x9_2 ≤ 0) → (vp_in x7_1 4096 ∧ (vp_in x7_1 4096 ∧ (J246 (x7_1 + 1) (upd mo_wordFrom_1 (Int32.toNatClampNeg x7_1) x8_1) (upd mo_wordSize_1 (Int32.toNatClampNeg x7_1) x9_2))))))) → J220 x9_2) → (((¬ x9_1 = 0) → (J220 x9_1)) ∧ ((x9_1 = 0) → (vp_in x8_1 4096 ∧ (wp_X10_isSeparator mo_memory a3 (mo_memory (Int32.toNatClampNeg x8_1)) (fun (r_5 : Int32) => ((r_5 = 0) → (J220 x9_1)) ∧ ((¬ r_5 = 0) → (J220 1)))))))
def pmT (mo_version : Int32) (mo_memory mo_letters : Nat → Int32) (mo_letterMany : Int32) (mo_packed mo_wordEntry : Nat → Int32) (a1 a2 a4 : Int32) (K : Int32 → (Nat → Int32) → (Nat → Int32) → Int32 → (Nat → Int32) → Int32 → Int32 → Int32 → (Nat → Int32) → (Nat → Int32) → (Nat → Int32) → Prop) (x7_1 : Int32) (mo_wordFrom_1 mo_wordSize_1 : Nat → Int32) (mo_entries_1 mo_entrySize_1 mo_entryMany_1 : Int32) : Prop :=
  vp_in a2 4096 ∧ (∀ J287 : Int32 → Prop, (∀ (y_3 : Int32), (wp_X10_within (Int32.toInt64 (a2 + 2)) (4 * (Int32.toInt64 y_3)) (fun (r_3 : Int32) => ((¬ r_3 = 0) → (∀ L312 : Int32 → (Nat → Int32) → Int32 → (Nat → Int32) → (Nat → Int32) → Prop, (∀ (x10_1 : Int32) (mo_letters_1 : Nat → Int32) (mo_letterMany_1 : Int32) (mo_packed_1 : Nat → Int32) (mo_wordEntry_1 : Nat → Int32), (((y_3 ≤ x10_1) → (vp_in (a2 + 1) 4096 ∧ (∀ L363 : Int32 → (Nat → Int32) → Prop, (∀ (x10_2 : Int32) (mo_memory_1 : Nat → Int32), (((y_3 ≤ x10_2) → (K x7_1 mo_memory_1 mo_letters_1 mo_letterMany_1 mo_packed_1 mo_entries_1 mo_entrySize_1 mo_entryMany_1 mo_wordFrom_1 mo_wordSize_1 mo_wordEntry_1)) ∧ ((¬ y_3 ≤ x10_2) → (∀ J474 : (Nat → Int32) → Prop, (∀ (mo_memory_2 : Nat → Int32), (L363 (x10_2 + 1) mo_memory_2) → J474 mo_memory_2) → (∀ J385 : Prop, ((∀ v_2 : Int32, v_2 = ((a2 + 2) + (4 * x10_2)) → (vp_in x10_2 4096 ∧ (vp_in v_2 4096 ∧ (vp_in x10_2 4096 ∧ (vp_in (v_2 + 1) 4096 ∧ (vp_in x10_2 4096 ∧ (vp_in (v_2 + 2) 4096 ∧ (vp_in x10_2 4096 ∧ (vp_in (v_2 + 3) 4096 ∧ (J474 (upd (upd (upd (upd mo_memory_1 (Int32.toNatClampNeg v_2) ((mo_wordEntry_1 (Int32.toNatClampNeg x10_2)) >>> (8 &&& 31))) (Int32.toNatClampNeg (v_2 + 1)) ((mo_wordEntry_1 (Int32.toNatClampNeg x10_2)) &&& 255)) (Int32.toNatClampNeg (v_2 + 2)) ((mo_wordSize_1 (Int32.toNatClampNeg x10_2)) &&& 255)) (Int32.toNatClampNeg (v_2 + 3)) (((mo_wordFrom_1 (Int32.toNatClampNeg x10_2)) - a1) &&& 255)))))))))))) → J385) → (((a4 = 0) → (J385)) ∧ ((¬ a4 = 0) → (vp_in x10_2 4096 ∧ ((((mo_wordEntry_1 (Int32.toNatClampNeg x10_2)) ≤ 0) → (J474 mo_memory_1)) ∧ ((¬ (mo_wordEntry_1 (Int32.toNatClampNeg x10_2)) ≤ 0) → (J385)))))))))) → L363 x10_2 mo_memory_1) → L363 0 (upd mo_memory (Int32.toNatClampNeg (a2 + 1)) y_3)))) ∧ ((¬ y_3 ≤ x10_1) → (vp_in x10_1 4096 ∧ (vp_in x10_1 4096 ∧ (wp_X10_entryOf mo_version mo_memory mo_letters_1 mo_letterMany_1 mo_packed_1 mo_entries_1 mo_entrySize_1 mo_entryMany_1 (mo_wordFrom_1 (Int32.toNatClampNeg x10_1)) (mo_wordSize_1 (Int32.toNatClampNeg x10_1)) (fun (r_4 : Int32) (mo_letters_2 : Nat → Int32) (mo_letterMany_2 : Int32) (mo_packed_2 : Nat → Int32) => vp_in x10_1 4096 ∧ (L312 (x10_1 + 1) mo_letters_2 mo_letterMany_2 mo_packed_2 (upd mo_wordEntry_1 (Int32.toNatClampNeg x10_1) r_4)))))))) → L312 x10_1 mo_letters_1 mo_letterMany_1 mo_packed_1 mo_wordEntry_1) → L312 0 mo_letters mo_letterMany mo_packed mo_wordEntry)) ∧ ((r_3 = 0) → (K (-3) mo_memory mo_letters mo_letterMany mo_packed mo_entries_1 mo_entrySize_1 mo_entryMany_1 mo_wordFrom_1 mo_wordSize_1 mo_wordEntry)))) → J287 y_3) → ((((mo_memory (Int32.toNatClampNeg a2)) ≤ x7_1) → (vp_in a2 4096 ∧ (J287 (mo_memory (Int32.toNatClampNeg a2))))) ∧ ((¬ (mo_memory (Int32.toNatClampNeg a2)) ≤ x7_1) → (J287 x7_1))))
def pmM (mo_version : Int32) (mo_memory mo_letters : Nat → Int32) (mo_letterMany : Int32) (mo_packed : Nat → Int32) (mo_entries mo_entrySize mo_entryMany : Int32) (mo_wordFrom mo_wordSize mo_wordEntry : Nat → Int32) (a1 a2 a3 a4 : Int32) (K : Int32 → (Nat → Int32) → (Nat → Int32) → Int32 → (Nat → Int32) → Int32 → Int32 → Int32 → (Nat → Int32) → (Nat → Int32) → (Nat → Int32) → Prop) (v_1 x6_1 : Int32) : Prop :=
  wp_X10_isThere mo_version mo_memory mo_entries mo_entrySize mo_entryMany a3 (fun (r_1 : Int32) (mo_entries_1 : Int32) (mo_entrySize_1 : Int32) (mo_entryMany_1 : Int32) => ((r_1 = 0) → (K (-3) mo_memory mo_letters mo_letterMany mo_packed mo_entries_1 mo_entrySize_1 mo_entryMany_1 mo_wordFrom mo_wordSize mo_wordEntry)) ∧ ((¬ r_1 = 0) → (wp_X10_within (Int32.toInt64 a2) 2 (fun (r_2 : Int32) => ((¬ r_2 = 0) → (∀ L138 : Int32 → Int32 → (Nat → Int32) → (Nat → Int32) → Prop, (∀ (x7_1 : Int32) (x8_1 : Int32) (mo_wordFrom_1 : Nat → Int32) (mo_wordSize_1 : Nat → Int32), (((x6_1 ≤ x8_1) → (vp_in a2 4096 ∧ (∀ J287 : Int32 → Prop, (∀ (y_3 : Int32), (wp_X10_within (Int32.toInt64 (a2 + 2)) (4 * (Int32.toInt64 y_3)) (fun (r_3 : Int32) => ((¬ r_3 = 0) → (∀ L312 : Int32 → (Nat → Int32) → Int32 → (Nat → Int32) → (Nat → Int32) → Prop, (∀ (x10_1 : Int32) (mo_letters_1 : Nat → Int32) (mo_letterMany_1 : Int32) (mo_packed_1 : Nat → Int32) (mo_wordEntry_1 : Nat → Int32), (((y_3 ≤ x10_1) → (vp_in (a2 + 1) 4096 ∧ (∀ L363 : Int32 → (Nat → Int32) → Prop, (∀ (x10_2 : Int32) (mo_memory_1 : Nat → Int32), (((y_3 ≤ x10_2) → (K x7_1 mo_memory_1 mo_letters_1 mo_letterMany_1 mo_packed_1 mo_entries_1 mo_entrySize_1 mo_entryMany_1 mo_wordFrom_1 mo_wordSize_1 mo_wordEntry_1)) ∧ ((¬ y_3 ≤ x10_2) → (∀ J474 : (Nat → Int32) → Prop, (∀ (mo_memory_2 : Nat → Int32), (L363 (x10_2 + 1) mo_memory_2) → J474 mo_memory_2) → (∀ J385 : Prop, ((∀ v_2 : Int32, v_2 = ((a2 + 2) + (4 * x10_2)) → (vp_in x10_2 4096 ∧ (vp_in v_2 4096 ∧ (vp_in x10_2 4096 ∧ (vp_in (v_2 + 1) 4096 ∧ (vp_in x10_2 4096 ∧ (vp_in (v_2 + 2) 4096 ∧ (vp_in x10_2 4096 ∧ (vp_in (v_2 + 3) 4096 ∧ (J474 (upd (upd (upd (upd mo_memory_1 (Int32.toNatClampNeg v_2) ((mo_wordEntry_1 (Int32.toNatClampNeg x10_2)) >>> (8 &&& 31))) (Int32.toNatClampNeg (v_2 + 1)) ((mo_wordEntry_1 (Int32.toNatClampNeg x10_2)) &&& 255)) (Int32.toNatClampNeg (v_2 + 2)) ((mo_wordSize_1 (Int32.toNatClampNeg x10_2)) &&& 255)) (Int32.toNatClampNeg (v_2 + 3)) (((mo_wordFrom_1 (Int32.toNatClampNeg x10_2)) - a1) &&& 255)))))))))))) → J385) → (((a4 = 0) → (J385)) ∧ ((¬ a4 = 0) → (vp_in x10_2 4096 ∧ ((((mo_wordEntry_1 (Int32.toNatClampNeg x10_2)) ≤ 0) → (J474 mo_memory_1)) ∧ ((¬ (mo_wordEntry_1 (Int32.toNatClampNeg x10_2)) ≤ 0) → (J385)))))))))) → L363 x10_2 mo_memory_1) → L363 0 (upd mo_memory (Int32.toNatClampNeg (a2 + 1)) y_3)))) ∧ ((¬ y_3 ≤ x10_1) → (vp_in x10_1 4096 ∧ (vp_in x10_1 4096 ∧ (wp_X10_entryOf mo_version mo_memory mo_letters_1 mo_letterMany_1 mo_packed_1 mo_entries_1 mo_entrySize_1 mo_entryMany_1 (mo_wordFrom_1 (Int32.toNatClampNeg x10_1)) (mo_wordSize_1 (Int32.toNatClampNeg x10_1)) (fun (r_4 : Int32) (mo_letters_2 : Nat → Int32) (mo_letterMany_2 : Int32) (mo_packed_2 : Nat → Int32) => vp_in x10_1 4096 ∧ (L312 (x10_1 + 1) mo_letters_2 mo_letterMany_2 mo_packed_2 (upd mo_wordEntry_1 (Int32.toNatClampNeg x10_1) r_4)))))))) → L312 x10_1 mo_letters_1 mo_letterMany_1 mo_packed_1 mo_wordEntry_1) → L312 0 mo_letters mo_letterMany mo_packed mo_wordEntry)) ∧ ((r_3 = 0) → (K (-3) mo_memory mo_letters mo_letterMany mo_packed mo_entries_1 mo_entrySize_1 mo_entryMany_1 mo_wordFrom_1 mo_wordSize_1 mo_wordEntry)))) → J287 y_3) → ((((mo_memory (Int32.toNatClampNeg a2)) ≤ x7_1) → (vp_in a2 4096 ∧ (J287 (mo_memory (Int32.toNatClampNeg a2))))) ∧ ((¬ (mo_memory (Int32.toNatClampNeg a2)) ≤ x7_1) → (J287 x7_1)))))) ∧ ((¬ x6_1 ≤ x8_1) → (∀ L148 : Int32 → Prop, (∀ (x9_1 : Int32), (∀ J197 : Prop, ((∀ J220 : Int32 → Prop, (∀ (x9_2 : Int32), (∀ J246 : Int32 → (Nat → Int32) → (Nat → Int32) → Prop, (∀ (x7_2 : Int32) (mo_wordFrom_2 : Nat → Int32) (mo_wordSize_2 : Nat → Int32), (∀ J259 : Int32 → Int32 → Prop, (∀ (y_4 : Int32) (y_5 : Int32), (∀ v_3 : Int32, v_3 = (y_5 + y_4) → (L138 x7_2 v_3 mo_wordFrom_2 mo_wordSize_2)) → J259 y_4 y_5) → (((x9_2 ≤ 0) → (J259 1 x8_1)) ∧ ((¬ x9_2 ≤ 0) → (J259 x9_2 x8_1)))) → J246 x7_2 mo_wordFrom_2 mo_wordSize_2) → (((x9_2 ≤ 0) → (J246 x7_1 mo_wordFrom_1 mo_wordSize_1)) ∧ ((¬ x9_2 ≤ 0) → (vp_in x7_1 4096 ∧ (vp_in x7_1 4096 ∧ (J246 (x7_1 + 1) (upd mo_wordFrom_1 (Int32.toNatClampNeg x7_1) x8_1) (upd mo_wordSize_1 (Int32.toNatClampNeg x7_1) x9_2))))))) → J220 x9_2) → (((¬ x9_1 = 0) → (J220 x9_1)) ∧ ((x9_1 = 0) → (vp_in x8_1 4096 ∧ (wp_X10_isSeparator mo_memory a3 (mo_memory (Int32.toNatClampNeg x8_1)) (fun (r_5 : Int32) => ((r_5 = 0) → (J220 x9_1)) ∧ ((¬ r_5 = 0) → (J220 1)))))))) → J197) → (((x6_1 ≤ (x8_1 + x9_1)) → (J197)) ∧ ((¬ x6_1 ≤ (x8_1 + x9_1)) → (vp_in (x8_1 + x9_1) 4096 ∧ ((((mo_memory (Int32.toNatClampNeg (x8_1 + x9_1))) = 32) → (J197)) ∧ ((¬ (mo_memory (Int32.toNatClampNeg (x8_1 + x9_1))) = 32) → (vp_in (x8_1 + x9_1) 4096 ∧ (wp_X10_isSeparator mo_memory a3 (mo_memory (Int32.toNatClampNeg (x8_1 + x9_1))) (fun (r_6 : Int32) => ((¬ r_6 = 0) → (J197)) ∧ ((r_6 = 0) → (L148 (x9_1 + 1)))))))))))) → L148 x9_1) → L148 0))) → L138 x7_1 x8_1 mo_wordFrom_1 mo_wordSize_1) → L138 0 v_1 mo_wordFrom mo_wordSize)) ∧ ((r_2 = 0) → (K (-3) mo_memory mo_letters mo_letterMany mo_packed mo_entries_1 mo_entrySize_1 mo_entryMany_1 mo_wordFrom mo_wordSize mo_wordEntry))))))
theorem ok_pmS {L : Int32 → Int32 → (Nat → Int32) → (Nat → Int32) → Prop} {f wf wz : Nat → Int32} {d w at_ n : Nat} (hB : Byt f) (hd : dat f d ≤ 4096) (ha : at_ < 4096) (hn : n < 4097) (hw : w < 4096) (hc0 : n = 0 → ¬ isSep f d (gv f at_) → L (nI w) (nI (at_ + 1)) wf wz) (hc1 : n = 0 → isSep f d (gv f at_) → L (nI (w + 1)) (nI (at_ + 1)) (upd wf w (nI at_)) (upd wz w (nI 1))) (hcn : n ≠ 0 → L (nI (w + 1)) (nI (at_ + n)) (upd wf w (nI at_)) (upd wz w (nI n))) : pmS L f (nI d) (nI w) (nI at_) wf wz (nI n) := by
  have hg := gv_ok hB at_
  have ca : (nI at_).toNatClampNeg = at_ := nI_clamp (by omega)
  have cw : (nI w).toNatClampNeg = w := nI_clamp (by omega)
  have va : vp_in (nI at_) 4096 := vp_in_nI ha (by decide)
  have vw : vp_in (nI w) 4096 := vp_in_nI hw (by decide)
  have z : nI n = 0 ↔ n = 0 := nI_eq (b := 0) (by omega) (by decide)
  have pos : ∀ x : Nat, 0 < x → x < 4097 → ¬ nI x ≤ 0 := fun x h1 h2 => nI_ge (b := x) (a := 0) h1 (by omega)
  unfold pmS
  rw [ca, cw, nI_1, hg.2]
  intro J220 h220
  refine bs_c (fun q => h220 _ (fun J246 h246 => ?_)) (fun q => ⟨va, ok_isSep hB hd hg.1 (fun s1 => br_f (by decide) (h220 _ (fun J246 h246 => ?_))) (fun s0 => br_t rfl (h220 _ (fun J246 h246 => ?_)))⟩)
  · have hn0 : n ≠ 0 := fun w => q (z.mpr w)
    have p1 := pos n (Nat.pos_of_ne_zero hn0) hn
    refine br_f p1 ⟨vw, vw, h246 _ _ _ (fun J259 h259 => br_f p1 (h259 _ _ (fun v ev => ?_)))⟩
    rw [ev, nI_add]
    exact hcn hn0
  · have p1 := pos 1 (by decide) (by decide)
    refine br_f p1 ⟨vw, vw, h246 _ _ _ (fun J259 h259 => br_f p1 (h259 _ _ (fun v ev => ?_)))⟩
    rw [ev, nI_1]
    exact hc1 (z.mp q) s1
  · have p1 : nI n ≤ 0 := by rw [q]; decide
    refine br_t p1 (h246 _ _ _ (fun J259 h259 => br_t p1 (h259 _ _ (fun v ev => ?_))))
    rw [ev, nI_1]
    exact hc0 (z.mp q) s0
theorem ok_pmT {V t p d : Nat} {f lt pk we wf wz : Nat → Int32} {lm fl : Int32} {K : Int32 → (Nat → Int32) → (Nat → Int32) → Int32 → (Nat → Int32) → Int32 → Int32 → Int32 → (Nat → Int32) → (Nat → Int32) → (Nat → Int32) → Prop} (hV : V < 9) (hB : Byt f) (ht : t ≤ 4000) (hp : p ≤ 4000) (tok : txOK V f t) (dok : dOK V f d) (hw : Wst 4096 (WL V f t d) wf wz) (h1 : pOK V f t p d → ∀ x1 x2 x3 x4 x5 x6 x7 x8 x9, K (nI (WL V f t d).length) (telF V f t p d fl (mny V f t p d)) x1 x2 x3 x4 x5 x6 x7 x8 x9) (h0 : ¬ pOK V f t p d → ∀ x1 x2 x3 x4 x5 x6 x7 x8 x9, K (-3) f x1 x2 x3 x4 x5 x6 x7 x8 x9) : pmT (nI V) f lt lm pk we (nI t) (nI p) fl K (nI (WL V f t d).length) wf wz (nI (dat f d)) (nI (dsz f d)) (nI (dct f d)) := by
  have htE := txOK_le tok
  have hwl := WL_len (V := V) (f := f) (t := t) (d := d)
  have hg := gv_ok hB p
  have hm1 : mny V f t p d ≤ (WL V f t d).length := Nat.min_le_left _ _
  have hm2 : mny V f t p d ≤ 255 := by have : mny V f t p d ≤ gv f p := Nat.min_le_right _ _; omega
  obtain ⟨N, eN⟩ : ∃ N, N = mny V f t p d := ⟨_, rfl⟩
  have cp : (nI p).toNatClampNeg = p := nI_clamp (by omega)
  have vp : vp_in (nI p) 4096 := vp_in_nI (by omega) (by decide)
  have hlen : (WL V f t d).length < 2 ^ 31 := by omega
  refine ⟨vp, ?_⟩
  rw [cp, hg.2]
  intro J287 h287
  have m287 : J287 (nI N) := by
    refine h287 _ ?_
    clear h287
    rw [show (nI p + 2 : Int32) = nI (p + 2) from nI_add _ 2, nI_l (n := N) (by omega), show (4 : Int64) * lN N = lN (4 * N) from lN_mul 4 N]
    have ep2 : (Int32.toInt64 (nI (p + 2))).toInt = (p : Int) + 2 := by rw [l_ti, nI_toInt (by omega)]; omega
    refine ok_within (k := 4 * N) (pk_lT (by omega)) (by omega) (by rw [ep2]; omega) (by rw [ep2]; omega) ?_
    rw [ep2]
    by_cases q : p + 2 + 4 * N ≤ 4096
    · have pok : pOK V f t p d := ⟨tok, dok, by rw [← eN]; exact q⟩
      rw [inMb_t (by unfold inM; omega)]
      refine bs_t (by decide) ?_
      have wj : ∀ j, j < N → wf j = nI (wAt V f t d j).1 ∧ wz j = nI (wAt V f t d j).2 := fun j hj => hw j (by omega) (by omega)
      intro L hL
      have key : ∀ i, i ≤ N → ∀ lt1 lm1 pk1 (en1 : Nat → Int32), (∀ j, j < i → en1 j = nI (enAt V f t d j)) → L (nI i) lt1 lm1 pk1 en1 := by
        refine for_up (P := fun i => ∀ lt1 lm1 pk1 (en1 : Nat → Int32), (∀ j, j < i → en1 j = nI (enAt V f t d j)) → L (nI i) lt1 lm1 pk1 en1) ?_ (fun i hi ih => ?_)
        · intro lt1 lm1 pk1 en1 hen
          refine hL _ _ _ _ _ (br_t (nI_le (Nat.le_refl _) (by omega)) ?_)
          rw [nI_1, nI_clamp (by omega)]
          refine ⟨vp_in_nI (by omega) (by decide), ?_⟩
          intro L2 hL2
          have key2 : ∀ i, i ≤ N → L2 (nI i) (telF V f t p d fl i) := by
            refine for_up (P := fun i => L2 (nI i) (telF V f t p d fl i)) ?_ (fun i hi ih => ?_)
            · refine hL2 _ _ (br_t (nI_le (Nat.le_refl _) (by omega)) ?_)
              have := h1 pok
              rw [← eN] at this
              exact this _ _ _ _ _ _ _ _ _
            · have wi := wAt_in (V := V) (f := f) (t := t) (d := d) (k := i) (by omega)
              have tg := txF_gt V t
              have ele : enAt V f t d i ≤ 4096 := ent_le dok
              have vi : vp_in (nI i) 4096 := vp_in_nI (by omega) (by decide)
              have ci : (nI i).toNatClampNeg = i := nI_clamp (by omega)
              have ez : nI (enAt V f t d i) ≤ 0 ↔ enAt V f t d i = 0 := (nI_leI (b := 0) (by omega) (by decide)).trans (by omega)
              have n1 : ¬ nI N ≤ nI i := nI_ge hi (by omega)
              obtain ⟨to, eto⟩ : ∃ to, to = p + 2 + 4 * i := ⟨_, rfl⟩
              have hto : to + 4 ≤ 4096 := by omega
              have eto2 : (nI (p + 2) + 4 * nI i : Int32) = nI to := by rw [show (4 : Int32) * nI i = nI (4 * i) from pk_mul 4 i, nI_add, eto]
              have v0 : vp_in (nI to) 4096 := vp_in_nI (by omega) (by decide)
              have v1 : vp_in (nI (to + 1)) 4096 := vp_in_nI (by omega) (by decide)
              have v2 : vp_in (nI (to + 2)) 4096 := vp_in_nI (by omega) (by decide)
              have v3 : vp_in (nI (to + 3)) 4096 := vp_in_nI (by omega) (by decide)
              have c0 : (nI to).toNatClampNeg = to := nI_clamp (by omega)
              have c1 : (nI (to + 1)).toNatClampNeg = to + 1 := nI_clamp (by omega)
              have c2 : (nI (to + 2)).toNatClampNeg = to + 2 := nI_clamp (by omega)
              have c3 : (nI (to + 3)).toNatClampNeg = to + 3 := nI_clamp (by omega)
              have a2 : (nI to + 2 : Int32) = nI (to + 2) := nI_add _ 2
              have a3 : (nI to + 3 : Int32) = nI (to + 3) := nI_add _ 3
              have s8 := shr_8 (n := enAt V f t d i) (by omega)
              have s9 := and_255 (n := enAt V f t d i) (by omega)
              have s10 := and_255 (n := (wAt V f t d i).2) (by omega)
              have s11 := and_255 (n := (wAt V f t d i).1 - t) (by omega)
              have s12 : nI (wAt V f t d i).1 - nI t = nI ((wAt V f t d i).1 - t) := pk_sub (by omega)
              rw [telF_s, ← eto] at ih
              refine hL2 _ _ (br_f n1 ?_)
              rw [ci, hen i hi, (wj i hi).1, (wj i hi).2, eto2, nI_1, s8, s9, s10, s12, s11]
              intro J474 h474 J385 h385
              have j385 : L2 (nI (i + 1)) (w4 (telF V f t p d fl i) to (enAt V f t d i) (wAt V f t d i).2 ((wAt V f t d i).1 - t)) → J385 := fun hk => h385 (nm_e (by
                rw [nI_1, a2, a3, c0, c1, c2, c3]
                exact ⟨vi, v0, vi, v1, vi, v2, vi, v3, h474 _ hk⟩))
              refine br_c (fun y => ?_) (fun y => ⟨vi, br_c (fun z => ?_) (fun z => ?_)⟩)
              · rw [if_neg (fun z2 => z2.1 y)] at ih
                exact j385 ih
              · rw [if_pos ⟨y, ez.mp z⟩] at ih
                exact h474 _ ih
              · rw [if_neg (fun z2 => z (ez.mpr z2.2))] at ih
                exact j385 ih
          have := key2 0 (Nat.zero_le _)
          rw [nI_0] at this
          rw [eN]
          exact this
        · intro lt1 lm1 pk1 en1 hen
          have wi := wAt_in (V := V) (f := f) (t := t) (d := d) (k := i) (by omega)
          have vi : vp_in (nI i) 4096 := vp_in_nI (by omega) (by decide)
          have ci : (nI i).toNatClampNeg = i := nI_clamp (by omega)
          refine hL _ _ _ _ _ (br_f (nI_ge hi (by omega)) ⟨vi, vi, ?_⟩)
          rw [ci, (wj i hi).1, (wj i hi).2, nI_1]
          refine ok_entM hV hB dok (by omega) (Or.inr ⟨rfl, by omega⟩) (fun lt' lm' pk' => ⟨vi, ih _ _ _ _ (fun j hj => ?_)⟩)
          by_cases e : j = i
          · subst e
            rw [pk_us]
            rfl
          · rw [pk_un e]
            exact hen j (by omega)
      exact key 0 (Nat.zero_le _) _ _ _ _ (fun j hj => absurd hj (Nat.not_lt_zero j))
    · rw [inMb_f (by unfold inM; omega)]
      exact bs_f rfl (h0 (fun z => q (by rw [eN]; exact z.2.2)) _ _ _ _ _ _ _ _ _)
  clear h287
  by_cases q : gv f p ≤ (WL V f t d).length
  · have : N = gv f p := by rw [eN]; exact Nat.min_eq_right q
    rw [this] at m287
    exact br_t (nI_le q hlen) ⟨vp, m287⟩
  · have : N = (WL V f t d).length := by rw [eN]; exact Nat.min_eq_left (by omega)
    rw [this] at m287
    exact br_f (nI_ge (by omega) (by omega)) m287
