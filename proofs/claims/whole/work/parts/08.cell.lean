def wp_L_cell (L : Nat) (xs : Nat → Int32) (a1 : Int32) (K : Int32 → Prop) : Prop :=
  (((nI L) ≤ a1) → (K 0)) ∧ ((¬ (nI L) ≤ a1) → (vp_in a1 L ∧ (K (xs (Int32.toNatClampNeg a1)))))
abbrev rmL_cell : Room := { frames := 0, cells := 0, slots := 0, locals := 0 }
abbrev zPX (sz b L : Nat) (xs : Nat → Int32) : State → Prop := fun U => U.heap.size = sz ∧ va_X b L xs U U.heap
set_option maxHeartbeats 4000000 in
set_option maxRecDepth 100000 in
theorem c_L_cell (l : Launch) (sz b L : Nat) (xs : Nat → Int32) (hb0 : b < sz) (a1 : Int32) (K : Int32 → Prop) (h : wp_L_cell L xs a1 K) : Met l yL_cell wsL_cell rmL_cell (va_Pc [.ref b, .int a1] (zPX sz b L xs)) (va_Qi (fun (r : Int32) (_ : Unit) => K r) (fun _ _ => True) (fun q => sz ≤ q)) 0 0 (fun q => sz ≤ q) := by
  refine Met.ofW (cc := cL_cell) (maxL := 2) (ret := some .int) (by decide) rfl ?_
  intro p e s m args below meth c s₁ B hml hv
  obtain ⟨ha, hsz, hX⟩ := hv
  subst hsz
  have hx := B.exec
  have hb := B.bytes
  have hts := atoms_spec (ws := wsL_cell) B.pre
  have hl := lv_entry ([.ref b, .int a1]) (n := 2) (Nat.le_of_ble_eq_true rfl)
  have hE : entryFrame m args 2 = F0 m 0 ((lg_sl ([.ref b, .int a1]) ++ List.replicate (2 - (lg_sl ([.ref b, .int a1])).length) Slot.unset).toArray) [] := by rw [ha]; exact lg_entry_eq m [.ref b, .int a1] 2
  rw [hE]
  generalize (lg_sl ([.ref b, .int a1]) ++ List.replicate (2 - (lg_sl ([.ref b, .int a1])).length) Slot.unset).toArray = ls at hl ⊢
  have hl : lv_has ls 2 [(0, .ref b), (1, .int a1)] := hl
  have hbl := hb0
  have hbA : ¬ (fun q : Nat => s.heap.size ≤ q) b := Nat.not_le.mpr hb0
  have hS : va_S (fun q : Nat => s.heap.size ≤ q) s.heap s.heap [] := va_S.rf
  have hR : ∀ (r : Int32), K r → ∀ (pc : Nat) (ls : Array Slot), decode cL_cell pc = .ok (.ireturn, 1) → W p l e (headSpec wsL_cell rmL_cell).room s m args below meth c s.heap [] 0 0 (MQ below (va_Qi (fun (r : Int32) (_ : Unit) => K r) (fun _ _ => True) (fun q => s.heap.size ≤ q)) args s 0 0 (fun q => s.heap.size ≤ q)) (F0 m pc ls [.int r]) := fun r h pc ls hd => W.iret (v := r) hx hb B.returns (fun t ht hW => ⟨⟨r, (), rfl, h, trivial⟩, hS.F ht⟩) hS.2.2 hd B.notSynchronized
  unfold wp_L_cell at h
  refine lv_iload_n hx hb dL_cell_0 rfl (lv_at hl 1 rfl) ?_
  refine lv_aload_n hx hb dL_cell_1 rfl (lv_at hl 0 rfl) ?_
  refine va_slen hx hb hX hbl hbA hS dL_cell_2 ?_
  refine lv_icmp_ge (tgt := 12) hx hb dL_cell_3 (by decide) (fun c_ => ?_) (fun c_ => ?_)
  · have h := h.1 c_
    refine lv_iconst (v := 0) hx hb dL_cell_12 (by decide) ?_
    exact hR 0 h _ ls dL_cell_13
  · have h := h.2 c_
    refine lv_aload_n hx hb dL_cell_6 rfl (lv_at hl 0 rfl) ?_
    refine lv_iload_n hx hb dL_cell_7 rfl (lv_at hl 1 rfl) ?_
    have hi := h.1
    have h := h.2
    refine va_sld hx hb hX hbl hbA hS hi dL_cell_8 ?_
    refine lv_goto (tgt := 13) hx hb dL_cell_9 (by decide) ?_
    exact hR (xs (Int32.toNatClampNeg a1)) h _ ls dL_cell_13
section ZCELL
variable {p : Program} {l : Launch} {e : Env} {R : Room} {s : State} {m : MethodId} {args : Array Value} {below : List Frame} {meth : Method} {c : Code} {H : Heap} {locs : List Loc} {cells slots : Nat} {Q : State → Prop}
theorem zz_cell {cc : ByteArray} {nL index : Nat} {Ts : List Cond} {own : String} {D : va_G} {ws : va_W} {A : Nat → Prop} {pc : Nat} {ls : Array Slot} {b L : Nat} {xs : Nat → Int32} {a1 : Int32} {K : Int32 → Prop} {rest st0 : List Value} (SF : CallFix p m c cc nL s args Ts own) (cw : CallB R s args own index yL_cell cL_cell 2 (some .int) wsL_cell rmL_cell 0 0 2 ∧ (Cond.static yL_cell).before args s = true) (hX : va_X b L xs s s.heap) (hbl : b < s.heap.size) (hbA : ¬ A b) (hP : va_P D vwCl ws H) (hD : va_D A ws) (hS : va_S A s.heap H locs) (hA : ∀ q, s.heap.size ≤ q → A q) (h : wp_L_cell L xs a1 K)
    (hst : st0 = [Value.ref b, Value.int a1].reverse ++ rest) (hl : ls.size = nL) (hroom : (rest.map fun v => v.category).sum ≤ 8) (hdg : decode cc pc = .ok (.invokestatic index, 3)) (hc : cells ≤ R.cells) (hs : slots ≤ R.slots)
    (kk : ∀ (r : Int32) (H1 : Heap) (locs1 : List Loc), K r → va_P D vwCl ws H1 → va_D A ws → va_S A s.heap H1 locs1 → W p l e R s m args below meth c H1 locs1 cells slots Q (F0 m (pc + 3) ls (.int r :: rest))) :
    W p l e R s m args below meth c H locs cells slots Q (F0 m pc ls st0) := by
  subst hst
  have hF : ∀ q, H.size ≤ q → A q := fun q hq => hA q (Nat.le_trans hS.1 hq)
  have hXH : va_X b L xs s H := hX.kept (hS.2.1 b hbl hbA)
  refine va_calli (va_runS (As := [.ref b, .int a1]) (rest := rest) SF (c_L_cell l H.size b L xs (Nat.lt_of_lt_of_le hbl hS.1) a1 K h) cw ⟨fun a U g mk q => ⟨q.1, q.2.1, va_X.moved (u := U) (U := U.calling g mk a) (Vm.Alike.refl U.vm) q.2.2⟩, fun U hU hW => ⟨rfl, by rw [hU], by rw [hU]; exact va_X.moved hW.alike hXH⟩⟩ rfl rfl hl rfl (lv_room hroom) hdg ⟨hc, hs⟩) hS (fun q hq h => absurd h (Nat.not_le.mpr hq)) hF (fun r u t H1 locs ht hvm hw hB hz1 hk1 hS => ?_)
  exact kk r H1 locs hw (hP.kept (fun k q hk => hk1 q.1 ((hP k q hk).lt) (Nat.not_le.mpr ((hP k q hk).lt)))) hD hS
end ZCELL
