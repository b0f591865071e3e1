-- MY OWN ROWS, over the String constants: zG is what the start says of them; the rows of 04.kit once more with it
def lenS : List Nat := [25, 25]
def bytS : List (List Int32) := [[48, 49, 50, 51, 52, 53, 54, 55, 56, 57, 46, 44, 33, 63, 95, 35, 39, 34, 47, 92, 60, 45, 58, 40, 41], [13, 48, 49, 50, 51, 52, 53, 54, 55, 56, 57, 46, 44, 33, 63, 95, 35, 39, 34, 47, 92, 45, 58, 40, 41]]
def txS0 : String := "0123456789.,!?_#'\"/\\<-:()"
def txS1 : String := "\r0123456789.,!?_#'\"/\\-:()"
abbrev zG (A0 : Nat → Prop) (adK adV : Nat → Nat) (U : State) : Prop := va_Z "java/lang/String" "COMPACT_STRINGS" "Z" (.int 1) A0 U U.heap ∧ vk_S 2 lenS bytS adK adV A0 U U.heap ∧ vk_R RX5 15 txS0 (adK 0) U ∧ vk_R RX5 17 txS1 (adK 1) U ∧ va_Nw (.methodLinkNest RX9 9 yX4_init RX9) U ∧ va_Nw (.methodLinkNest RX9 50 yX7_init RX9) U ∧ va_Nw (.methodLinkNest RX9 57 yX0_init RX9) U ∧ va_Nw (.methodLinkNest RX9 64 yX3_init RX9) U ∧ va_Nw (.methodLinkNest RX9 71 yX2_init RX9) U ∧ va_Nw (.methodLinkNest RX9 78 yX8_init RX9) U
abbrev zPG (D : va_G) (tys : List (ClassId × FieldType)) (sz : Nat) (A0 : Nat → Prop) (adK adV : Nat → Nat) (ws : va_W) : State → Prop := fun U => U.heap.size = sz ∧ va_P D vwCl ws U.heap ∧ va_K D vwCl tys U ∧ va_D A0 ws ∧ zG A0 adK adV U
theorem zz_Gmove {A0 : Nat → Prop} {adK adV : Nat → Nat} {s U : State} {H : Heap} (h : zG A0 adK adV s) (hq : ∀ a : Nat, a < s.heap.size → ¬ A0 a → H[a]? = s.heap[a]?) (hU : U.heap = H) (hW : s.WarmedH U.vm) : zG A0 adK adV U :=
  ⟨by rw [hU]; exact (h.1.kept hq).moved hW.alike, by rw [hU]; exact (h.2.1.kept hq).moved hW.alike, h.2.2.1.warm hW, h.2.2.2.1.warm hW, h.2.2.2.2.1.warmM hW, h.2.2.2.2.2.1.warmM hW, h.2.2.2.2.2.2.1.warmM hW, h.2.2.2.2.2.2.2.1.warmM hW, h.2.2.2.2.2.2.2.2.1.warmM hW, h.2.2.2.2.2.2.2.2.2.warmM hW⟩
theorem zz_blindG {D : va_G} {tys : List (ClassId × FieldType)} {sz : Nat} {A0 : Nat → Prop} {adK adV : Nat → Nat} {ws : va_W} {av : List Value} : FrameBlind (va_Pc av (zPG D tys sz A0 adK adV ws)) := fun a U g mk q => by
  obtain ⟨q0, q1, qP, qK, qD, q2, q3, q4, q5, q6, q7, q8, q9, q10, q11⟩ := q
  exact ⟨q0, q1, qP, va_K.moved (u := U) (U := U.calling g mk a) (Vm.Alike.refl U.vm) qK, qD, va_Z.moved (u := U) (U := U.calling g mk a) (Vm.Alike.refl U.vm) q2, vk_S.moved (u := U) (U := U.calling g mk a) (Vm.Alike.refl U.vm) q3, vk_R.same (u := U) (U := U.calling g mk a) rfl q4, vk_R.same (u := U) (U := U.calling g mk a) rfl q5, va_Nw.same (u := U) (U := U.calling g mk a) rfl rfl q6, va_Nw.same (u := U) (U := U.calling g mk a) rfl rfl q7, va_Nw.same (u := U) (U := U.calling g mk a) rfl rfl q8, va_Nw.same (u := U) (U := U.calling g mk a) rfl rfl q9, va_Nw.same (u := U) (U := U.calling g mk a) rfl rfl q10, va_Nw.same (u := U) (U := U.calling g mk a) rfl rfl q11⟩
section ZOFG
variable {l : Launch} {y : MethodName} {wsm ws' : List Cond} {rm : Room} {cc : ByteArray} {maxL : Nat} {S : Type} {D : va_G} {tys : List (ClassId × FieldType)} {sz : Nat} {w0 : va_W} {w1 : S → va_W} {av : List Value} {A0 : Nat → Prop} {adK adV : Nat → Nat}
theorem zz_ofiG {post : Int32 → S → Prop} (hy : plainName y.cls = true) (hw : wsm = Cond.code y cc maxL (some .int) :: ws') (hlen : (lg_sl av).length ≤ maxL) (hz : ∀ q, sz ≤ q → A0 q)
    (body : ∀ (p : Program) (e : Env) (s : State) (m : MethodId) (args : Array Value) (below : List Frame) (meth : Method) (c : Code) (A : Nat → Prop) (Q : State → Prop) (ls : Array Slot), p.tables.exec = Jvm.exec → c.code = cc → c.maxLocals = maxL → s.vm.findClass y.cls = some m.cls → (∀ w ∈ wsm, w.before args s = true) → va_K D vwCl tys s → (∀ q, s.heap.size ≤ q → A q) → zG A0 adK adV s → (∀ q, A q → A0 q) →
      (∀ (r : Int32) (u : S) (H : Heap) (locs : List Loc), post r u → va_P D vwCl (w1 u) H → va_D A (w1 u) → va_S A s.heap H locs → ∀ (pc : Nat) (ls : Array Slot), decode cc pc = .ok (.ireturn, 1) → W p l e rm s m args below meth c H locs 0 0 Q (F0 m pc ls [.int r])) →
      va_P D vwCl w0 s.heap → va_D A w0 → va_S A s.heap s.heap [] → lv_has ls maxL (lv_args 0 av) → W p l e rm s m args below meth c s.heap [] 0 0 Q (F0 m 0 ls [])) :
    Met l y wsm rm (va_Pc av (zPG D tys sz A0 adK adV w0)) (va_Qi post (fun u => zB D tys (va_A w0 sz) (w1 u)) (va_A w0 sz)) 0 0 (va_A w0 sz) := by
  refine Met.ofW (cc := cc) (maxL := maxL) (ret := some .int) hy hw ?_
  intro p e s m args below meth c s₁ B hml hv
  obtain ⟨ha, hsz, hP, hK, hD0, hG⟩ := hv
  subst hsz
  have hts := atoms_spec (ws := wsm) B.pre
  have hown : s.vm.findClass y.cls = some m.cls := findClass_of_methodNamed B.named
  have hD := hD0.self (sz := s.heap.size)
  have hl := lv_entry av (n := maxL) hlen
  have hE : entryFrame m args maxL = F0 m 0 ((lg_sl av ++ List.replicate (maxL - (lg_sl av).length) Slot.unset).toArray) [] := by rw [ha]; exact lg_entry_eq m av maxL
  rw [hE]
  exact body p e s m args below meth c (va_A w0 s.heap.size) _ _ B.exec B.bytes hml hown hts hK (fun q h => Or.inr h) hG (fun q h => h.elim (fun ⟨k, e, hk⟩ => hD0.2 k (q, e) hk) (hz q))
    (fun r u H locs h hP hD hS pc ls hd => W.iret (v := r) B.exec B.bytes B.returns (fun t ht hW => ⟨⟨r, u, rfl, h, by rw [ht]; exact hP, va_K.moved hW.alike hK, hD⟩, hS.F ht⟩) hS.2.2 hd B.notSynchronized) hP hD va_S.rf hl
theorem zz_ofzG {post : Int32 → S → Prop} (hy : plainName y.cls = true) (hw : wsm = Cond.code y cc maxL (some .boolean) :: ws') (hlen : (lg_sl av).length ≤ maxL) (hz : ∀ q, sz ≤ q → A0 q)
    (body : ∀ (p : Program) (e : Env) (s : State) (m : MethodId) (args : Array Value) (below : List Frame) (meth : Method) (c : Code) (A : Nat → Prop) (Q : State → Prop) (ls : Array Slot), p.tables.exec = Jvm.exec → c.code = cc → c.maxLocals = maxL → s.vm.findClass y.cls = some m.cls → (∀ w ∈ wsm, w.before args s = true) → va_K D vwCl tys s → (∀ q, s.heap.size ≤ q → A q) → zG A0 adK adV s → (∀ q, A q → A0 q) →
      (∀ (r : Int32) (u : S) (H : Heap) (locs : List Loc), (r = 0 ∨ r = 1) → post r u → va_P D vwCl (w1 u) H → va_D A (w1 u) → va_S A s.heap H locs → ∀ (pc : Nat) (ls : Array Slot), decode cc pc = .ok (.ireturn, 1) → W p l e rm s m args below meth c H locs 0 0 Q (F0 m pc ls [.int r])) →
      va_P D vwCl w0 s.heap → va_D A w0 → va_S A s.heap s.heap [] → lv_has ls maxL (lv_args 0 av) → W p l e rm s m args below meth c s.heap [] 0 0 Q (F0 m 0 ls [])) :
    Met l y wsm rm (va_Pc av (zPG D tys sz A0 adK adV w0)) (va_Qi post (fun u => zB D tys (va_A w0 sz) (w1 u)) (va_A w0 sz)) 0 0 (va_A w0 sz) := by
  refine Met.ofW (cc := cc) (maxL := maxL) (ret := some .boolean) hy hw ?_
  intro p e s m args below meth c s₁ B hml hv
  obtain ⟨ha, hsz, hP, hK, hD0, hG⟩ := hv
  subst hsz
  have hts := atoms_spec (ws := wsm) B.pre
  have hown : s.vm.findClass y.cls = some m.cls := findClass_of_methodNamed B.named
  have hD := hD0.self (sz := s.heap.size)
  have hl := lv_entry av (n := maxL) hlen
  have hE : entryFrame m args maxL = F0 m 0 ((lg_sl av ++ List.replicate (maxL - (lg_sl av).length) Slot.unset).toArray) [] := by rw [ha]; exact lg_entry_eq m av maxL
  rw [hE]
  exact body p e s m args below meth c (va_A w0 s.heap.size) _ _ B.exec B.bytes hml hown hts hK (fun q h => Or.inr h) hG (fun q h => h.elim (fun ⟨k, e, hk⟩ => hD0.2 k (q, e) hk) (hz q))
    (fun r u H locs h01 h hP hD hS pc ls hd => W.zret (v := r) B.exec B.bytes B.returns (zz_bool h01) (fun t ht hW => ⟨⟨r, u, rfl, h, by rw [ht]; exact hP, va_K.moved hW.alike hK, hD⟩, hS.F ht⟩) hS.2.2 hd B.notSynchronized) hP hD va_S.rf hl
theorem zz_ofvG {post : S → Prop} (hy : plainName y.cls = true) (hw : wsm = Cond.code y cc maxL none :: ws') (hlen : (lg_sl av).length ≤ maxL) (hz : ∀ q, sz ≤ q → A0 q)
    (body : ∀ (p : Program) (e : Env) (s : State) (m : MethodId) (args : Array Value) (below : List Frame) (meth : Method) (c : Code) (A : Nat → Prop) (Q : State → Prop) (ls : Array Slot), p.tables.exec = Jvm.exec → c.code = cc → c.maxLocals = maxL → s.vm.findClass y.cls = some m.cls → (∀ w ∈ wsm, w.before args s = true) → va_K D vwCl tys s → (∀ q, s.heap.size ≤ q → A q) → zG A0 adK adV s → (∀ q, A q → A0 q) →
      (∀ (u : S) (H : Heap) (locs : List Loc), post u → va_P D vwCl (w1 u) H → va_D A (w1 u) → va_S A s.heap H locs → ∀ (pc : Nat) (ls : Array Slot), decode cc pc = .ok (.return_, 1) → W p l e rm s m args below meth c H locs 0 0 Q (F0 m pc ls [])) →
      va_P D vwCl w0 s.heap → va_D A w0 → va_S A s.heap s.heap [] → lv_has ls maxL (lv_args 0 av) → W p l e rm s m args below meth c s.heap [] 0 0 Q (F0 m 0 ls [])) :
    Met l y wsm rm (va_Pc av (zPG D tys sz A0 adK adV w0)) (va_Qv post (fun u => zB D tys (va_A w0 sz) (w1 u)) (va_A w0 sz)) 0 0 (va_A w0 sz) := by
  refine Met.ofW (cc := cc) (maxL := maxL) (ret := none) hy hw ?_
  intro p e s m args below meth c s₁ B hml hv
  obtain ⟨ha, hsz, hP, hK, hD0, hG⟩ := hv
  subst hsz
  have hts := atoms_spec (ws := wsm) B.pre
  have hown : s.vm.findClass y.cls = some m.cls := findClass_of_methodNamed B.named
  have hD := hD0.self (sz := s.heap.size)
  have hl := lv_entry av (n := maxL) hlen
  have hE : entryFrame m args maxL = F0 m 0 ((lg_sl av ++ List.replicate (maxL - (lg_sl av).length) Slot.unset).toArray) [] := by rw [ha]; exact lg_entry_eq m av maxL
  rw [hE]
  exact body p e s m args below meth c (va_A w0 s.heap.size) _ _ B.exec B.bytes hml hown hts hK (fun q h => Or.inr h) hG (fun q h => h.elim (fun ⟨k, e, hk⟩ => hD0.2 k (q, e) hk) (hz q))
    (fun u H locs h hP hD hS pc ls hd => W.vret B.exec B.bytes B.returns (fun t ht hW => ⟨⟨u, rfl, h, by rw [ht]; exact hP, va_K.moved hW.alike hK, hD⟩, hS.F ht⟩) hS.2.2 hd B.notSynchronized) hP hD va_S.rf hl
theorem zz_oflG {post : Int64 → S → Prop} (hy : plainName y.cls = true) (hw : wsm = Cond.code y cc maxL (some .long) :: ws') (hlen : (lg_sl av).length ≤ maxL) (hz : ∀ q, sz ≤ q → A0 q)
    (body : ∀ (p : Program) (e : Env) (s : State) (m : MethodId) (args : Array Value) (below : List Frame) (meth : Method) (c : Code) (A : Nat → Prop) (Q : State → Prop) (ls : Array Slot), p.tables.exec = Jvm.exec → c.code = cc → c.maxLocals = maxL → s.vm.findClass y.cls = some m.cls → (∀ w ∈ wsm, w.before args s = true) → va_K D vwCl tys s → (∀ q, s.heap.size ≤ q → A q) → zG A0 adK adV s → (∀ q, A q → A0 q) →
      (∀ (r : Int64) (u : S) (H : Heap) (locs : List Loc), post r u → va_P D vwCl (w1 u) H → va_D A (w1 u) → va_S A s.heap H locs → ∀ (pc : Nat) (ls : Array Slot), decode cc pc = .ok (.lreturn, 1) → W p l e rm s m args below meth c H locs 0 0 Q (F0 m pc ls [.long r])) →
      va_P D vwCl w0 s.heap → va_D A w0 → va_S A s.heap s.heap [] → lv_has ls maxL (lv_args 0 av) → W p l e rm s m args below meth c s.heap [] 0 0 Q (F0 m 0 ls [])) :
    Met l y wsm rm (va_Pc av (zPG D tys sz A0 adK adV w0)) (va_Ql post (fun u => zB D tys (va_A w0 sz) (w1 u)) (va_A w0 sz)) 0 0 (va_A w0 sz) := by
  refine Met.ofW (cc := cc) (maxL := maxL) (ret := some .long) hy hw ?_
  intro p e s m args below meth c s₁ B hml hv
  obtain ⟨ha, hsz, hP, hK, hD0, hG⟩ := hv
  subst hsz
  have hts := atoms_spec (ws := wsm) B.pre
  have hown : s.vm.findClass y.cls = some m.cls := findClass_of_methodNamed B.named
  have hD := hD0.self (sz := s.heap.size)
  have hl := lv_entry av (n := maxL) hlen
  have hE : entryFrame m args maxL = F0 m 0 ((lg_sl av ++ List.replicate (maxL - (lg_sl av).length) Slot.unset).toArray) [] := by rw [ha]; exact lg_entry_eq m av maxL
  rw [hE]
  exact body p e s m args below meth c (va_A w0 s.heap.size) _ _ B.exec B.bytes hml hown hts hK (fun q h => Or.inr h) hG (fun q h => h.elim (fun ⟨k, e, hk⟩ => hD0.2 k (q, e) hk) (hz q))
    (fun r u H locs h hP hD hS pc ls hd => W.lret (v := r) B.exec B.bytes B.returns (fun t ht hW => ⟨⟨r, u, rfl, h, by rw [ht]; exact hP, va_K.moved hW.alike hK, hD⟩, hS.F ht⟩) hS.2.2 hd B.notSynchronized) hP hD va_S.rf hl
end ZOFG
section ZOFB
variable {l : Launch} {y : MethodName} {wsm ws' : List Cond} {rm : Room} {cc : ByteArray} {maxL : Nat} {S : Type} {D : va_G} {tys : List (ClassId × FieldType)} {sz : Nat} {w0 : va_W} {w1 : S → va_W} {av : List Value} {A0 : Nat → Prop} {adK adV : Nat → Nat}
theorem zz_ofbG {post : Int32 → S → Prop} (hy : plainName y.cls = true) (hw : wsm = Cond.code y cc maxL (some .byte) :: ws') (hlen : (lg_sl av).length ≤ maxL) (hz : ∀ q, sz ≤ q → A0 q)
    (body : ∀ (p : Program) (e : Env) (s : State) (m : MethodId) (args : Array Value) (below : List Frame) (meth : Method) (c : Code) (A : Nat → Prop) (Q : State → Prop) (ls : Array Slot), p.tables.exec = Jvm.exec → c.code = cc → c.maxLocals = maxL → s.vm.findClass y.cls = some m.cls → (∀ w ∈ wsm, w.before args s = true) → va_K D vwCl tys s → (∀ q, s.heap.size ≤ q → A q) → zG A0 adK adV s → (∀ q, A q → A0 q) →
      (∀ (r : Int32) (u : S) (H : Heap) (locs : List Loc), narrow .byte (.int r) = .int r → post r u → va_P D vwCl (w1 u) H → va_D A (w1 u) → va_S A s.heap H locs → ∀ (pc : Nat) (ls : Array Slot), decode cc pc = .ok (.ireturn, 1) → W p l e rm s m args below meth c H locs 0 0 Q (F0 m pc ls [.int r])) →
      va_P D vwCl w0 s.heap → va_D A w0 → va_S A s.heap s.heap [] → lv_has ls maxL (lv_args 0 av) → W p l e rm s m args below meth c s.heap [] 0 0 Q (F0 m 0 ls [])) :
    Met l y wsm rm (va_Pc av (zPG D tys sz A0 adK adV w0)) (va_Qi post (fun u => zB D tys (va_A w0 sz) (w1 u)) (va_A w0 sz)) 0 0 (va_A w0 sz) := by
  refine Met.ofW (cc := cc) (maxL := maxL) (ret := some .byte) hy hw ?_
  intro p e s m args below meth c s₁ B hml hv
  obtain ⟨ha, hsz, hP, hK, hD0, hG⟩ := hv
  subst hsz
  have hts := atoms_spec (ws := wsm) B.pre
  have hown : s.vm.findClass y.cls = some m.cls := findClass_of_methodNamed B.named
  have hD := hD0.self (sz := s.heap.size)
  have hl := lv_entry av (n := maxL) hlen
  have hE : entryFrame m args maxL = F0 m 0 ((lg_sl av ++ List.replicate (maxL - (lg_sl av).length) Slot.unset).toArray) [] := by rw [ha]; exact lg_entry_eq m av maxL
  rw [hE]
  exact body p e s m args below meth c (va_A w0 s.heap.size) _ _ B.exec B.bytes hml hown hts hK (fun q h => Or.inr h) hG (fun q h => h.elim (fun ⟨k, e, hk⟩ => hD0.2 k (q, e) hk) (hz q))
    (fun r u H locs h01 h hP hD hS pc ls hd => W.zret (v := r) B.exec B.bytes B.returns h01 (fun t ht hW => ⟨⟨r, u, rfl, h, by rw [ht]; exact hP, va_K.moved hW.alike hK, hD⟩, hS.F ht⟩) hS.2.2 hd B.notSynchronized) hP hD va_S.rf hl
end ZOFB
section ZCALLG
variable {p : Program} {l : Launch} {e : Env} {R : Room} {s : State} {m : MethodId} {args : Array Value} {below : List Frame} {meth : Method} {c : Code} {H : Heap} {locs : List Loc} {cells slots : Nat} {Q : State → Prop}
variable {cc bytes : ByteArray} {nL maxL n index : Nat} {Ts wsc : List Cond} {own C : String} {y : MethodName} {ret : Option FieldType} {rm : Room} {D : va_G} {tys : List (ClassId × FieldType)} {ws wc wr : va_W} {S : Type} {w1 : S → va_W} {A : Nat → Prop} {pc : Nat} {ls : Array Slot} {b : Nat} {As rest st0 : List Value} {A0 : Nat → Prop} {adK adV : Nat → Nat}
theorem zz_preG (hG : zG A0 adK adV s) (hAA : ∀ q, A q → A0 q) (hS : va_S A s.heap H locs) (hK : va_K D vwCl tys s) (hPc : va_P D vwCl wc H) (hDc : va_D A wc) {av : List Value} : ∀ U : State, U.heap = H → s.WarmedH U.vm → va_Pc av (zPG D tys H.size A0 adK adV wc) av.toArray U := fun U hU hW => ⟨rfl, by rw [hU], by rw [hU]; exact hPc, va_K.moved hW.alike hK, hDc.weaken (fun _ q _ h => hAA q.1 h), zz_Gmove hG (fun a h1 h2 => hS.2.1 a h1 (fun h3 => h2 (hAA a h3))) hU hW⟩
theorem zz_ViG {post : Int32 → S → Prop} {T : u_T} {N ci : Nat} {fs : List Value} (SF : CallFix p m c cc nL s args Ts own) (cw : CallW R s args own C index y bytes maxL ret wsc rm 0 0 n) (hK : va_K D vwCl tys s) (hP : va_P D vwCl ws H) (hD : va_D A ws) (hS : va_S A s.heap H locs) (hA : ∀ q, s.heap.size ≤ q → A q) (hG : zG A0 adK adV s) (hAA : ∀ q, A q → A0 q)
    (hM : Met l y wsc rm (va_Pc (.ref b :: As) (zPG D tys H.size A0 adK adV wc)) (va_Qi post (fun u => zB D tys (va_A wc H.size) (w1 u)) (va_A wc H.size)) 0 0 (va_A wc H.size))
    (isC isR : List Nat) (hC : isC.map (fun i => ws[i]?) = wc.map some) (hR : isR.map (fun i => ws[i]?) = wr.map some) (hnR : va_nd isR = true) (hnC : va_nd isC = true) (hdis : ∀ i ∈ isR, i ∉ isC) (q0 : Nat) (hcl : vwCl[ci]? = some (C, T, N)) (he : wc[q0]? = some (b, .inr (ci, fs)))
    (hst : st0 = As.reverse ++ .ref b :: rest) (hn : As.length = n) (hl : ls.size = nL) (hroom : (rest.map fun v => v.category).sum ≤ 8) (hdg : decode cc pc = .ok (.invokevirtual index, 3)) (hc : cells ≤ R.cells) (hs : slots ≤ R.slots)
    (kk : ∀ (r : Int32) (u : S) (H1 : Heap) (locs1 : List Loc), post r u → va_P D vwCl (wr ++ w1 u) H1 → va_D A (wr ++ w1 u) → va_S A s.heap H1 locs1 → W p l e R s m args below meth c H1 locs1 cells slots Q (F0 m (pc + 3) ls (.int r :: rest))) :
    W p l e R s m args below meth c H locs cells slots Q (F0 m pc ls st0) := by
  subst hst
  have hPc : va_P D vwCl wc H := fun k q hk => by
    have h1 : (isC.map (fun i => ws[i]?))[k]? = some (some q) := by rw [hC, List.getElem?_map, hk]; rfl
    rw [List.getElem?_map] at h1
    cases hi : isC[k]? with
    | none => rw [hi] at h1; cases h1
    | some i => rw [hi] at h1; exact hP i q (Option.some.inj h1)
  have hDc : va_D A wc := hD.sub isC hnC hC
  have hFc := va_free (wc := wc) hD hS hA isC hC
  refine va_calli (va_runV (As := As) (rest := rest) SF hM cw ⟨zz_blindG, va_recv hK hPc hcl he, zz_preG hG hAA hS hK hPc hDc⟩ rfl hn hl rfl (lv_room hroom) hdg ⟨hc, hs⟩) hS (fun q _ h => hFc q h) hFc (fun r u t H1 locs ht hvm hw hB hz1 hk1 hS => ?_)
  obtain ⟨hP1, hK1, hD1⟩ := hB
  rw [ht] at hP1
  obtain ⟨hP2, hD2⟩ := va_join (wr := wr) (w1 := w1 u) hP hD isC isR hC hR hnR hdis hk1 hFc hP1 hD1
  exact kk r u H1 locs hw hP2 hD2 hS
theorem zz_VlG {post : Int64 → S → Prop} {T : u_T} {N ci : Nat} {fs : List Value} (SF : CallFix p m c cc nL s args Ts own) (cw : CallW R s args own C index y bytes maxL ret wsc rm 0 0 n) (hK : va_K D vwCl tys s) (hP : va_P D vwCl ws H) (hD : va_D A ws) (hS : va_S A s.heap H locs) (hA : ∀ q, s.heap.size ≤ q → A q) (hG : zG A0 adK adV s) (hAA : ∀ q, A q → A0 q)
    (hM : Met l y wsc rm (va_Pc (.ref b :: As) (zPG D tys H.size A0 adK adV wc)) (va_Ql post (fun u => zB D tys (va_A wc H.size) (w1 u)) (va_A wc H.size)) 0 0 (va_A wc H.size))
    (isC isR : List Nat) (hC : isC.map (fun i => ws[i]?) = wc.map some) (hR : isR.map (fun i => ws[i]?) = wr.map some) (hnR : va_nd isR = true) (hnC : va_nd isC = true) (hdis : ∀ i ∈ isR, i ∉ isC) (q0 : Nat) (hcl : vwCl[ci]? = some (C, T, N)) (he : wc[q0]? = some (b, .inr (ci, fs)))
    (hst : st0 = As.reverse ++ .ref b :: rest) (hn : As.length = n) (hl : ls.size = nL) (hroom : (rest.map fun v => v.category).sum ≤ 8) (hdg : decode cc pc = .ok (.invokevirtual index, 3)) (hc : cells ≤ R.cells) (hs : slots ≤ R.slots)
    (kk : ∀ (r : Int64) (u : S) (H1 : Heap) (locs1 : List Loc), post r u → va_P D vwCl (wr ++ w1 u) H1 → va_D A (wr ++ w1 u) → va_S A s.heap H1 locs1 → W p l e R s m args below meth c H1 locs1 cells slots Q (F0 m (pc + 3) ls (.long r :: rest))) :
    W p l e R s m args below meth c H locs cells slots Q (F0 m pc ls st0) := by
  subst hst
  have hPc : va_P D vwCl wc H := fun k q hk => by
    have h1 : (isC.map (fun i => ws[i]?))[k]? = some (some q) := by rw [hC, List.getElem?_map, hk]; rfl
    rw [List.getElem?_map] at h1
    cases hi : isC[k]? with
    | none => rw [hi] at h1; cases h1
    | some i => rw [hi] at h1; exact hP i q (Option.some.inj h1)
  have hDc : va_D A wc := hD.sub isC hnC hC
  have hFc := va_free (wc := wc) hD hS hA isC hC
  refine va_calll (va_runV (As := As) (rest := rest) SF hM cw ⟨zz_blindG, va_recv hK hPc hcl he, zz_preG hG hAA hS hK hPc hDc⟩ rfl hn hl rfl (lv_room hroom) hdg ⟨hc, hs⟩) hS (fun q _ h => hFc q h) hFc (fun r u t H1 locs ht hvm hw hB hz1 hk1 hS => ?_)
  obtain ⟨hP1, hK1, hD1⟩ := hB
  rw [ht] at hP1
  obtain ⟨hP2, hD2⟩ := va_join (wr := wr) (w1 := w1 u) hP hD isC isR hC hR hnR hdis hk1 hFc hP1 hD1
  exact kk r u H1 locs hw hP2 hD2 hS
theorem zz_VvG {post : S → Prop} {T : u_T} {N ci : Nat} {fs : List Value} (SF : CallFix p m c cc nL s args Ts own) (cw : CallW R s args own C index y bytes maxL ret wsc rm 0 0 n) (hK : va_K D vwCl tys s) (hP : va_P D vwCl ws H) (hD : va_D A ws) (hS : va_S A s.heap H locs) (hA : ∀ q, s.heap.size ≤ q → A q) (hG : zG A0 adK adV s) (hAA : ∀ q, A q → A0 q)
    (hM : Met l y wsc rm (va_Pc (.ref b :: As) (zPG D tys H.size A0 adK adV wc)) (va_Qv post (fun u => zB D tys (va_A wc H.size) (w1 u)) (va_A wc H.size)) 0 0 (va_A wc H.size))
    (isC isR : List Nat) (hC : isC.map (fun i => ws[i]?) = wc.map some) (hR : isR.map (fun i => ws[i]?) = wr.map some) (hnR : va_nd isR = true) (hnC : va_nd isC = true) (hdis : ∀ i ∈ isR, i ∉ isC) (q0 : Nat) (hcl : vwCl[ci]? = some (C, T, N)) (he : wc[q0]? = some (b, .inr (ci, fs)))
    (hst : st0 = As.reverse ++ .ref b :: rest) (hn : As.length = n) (hl : ls.size = nL) (hroom : (rest.map fun v => v.category).sum ≤ 8) (hdg : decode cc pc = .ok (.invokevirtual index, 3)) (hc : cells ≤ R.cells) (hs : slots ≤ R.slots)
    (kk : ∀ (u : S) (H1 : Heap) (locs1 : List Loc), post u → va_P D vwCl (wr ++ w1 u) H1 → va_D A (wr ++ w1 u) → va_S A s.heap H1 locs1 → W p l e R s m args below meth c H1 locs1 cells slots Q (F0 m (pc + 3) ls rest)) :
    W p l e R s m args below meth c H locs cells slots Q (F0 m pc ls st0) := by
  subst hst
  have hPc : va_P D vwCl wc H := fun k q hk => by
    have h1 : (isC.map (fun i => ws[i]?))[k]? = some (some q) := by rw [hC, List.getElem?_map, hk]; rfl
    rw [List.getElem?_map] at h1
    cases hi : isC[k]? with
    | none => rw [hi] at h1; cases h1
    | some i => rw [hi] at h1; exact hP i q (Option.some.inj h1)
  have hDc : va_D A wc := hD.sub isC hnC hC
  have hFc := va_free (wc := wc) hD hS hA isC hC
  refine va_callv (va_runV (As := As) (rest := rest) SF hM cw ⟨zz_blindG, va_recv hK hPc hcl he, zz_preG hG hAA hS hK hPc hDc⟩ rfl hn hl rfl (lv_room hroom) hdg ⟨hc, hs⟩) hS (fun q _ h => hFc q h) hFc (fun u t H1 locs ht hvm hw hB hz1 hk1 hS => ?_)
  obtain ⟨hP1, hK1, hD1⟩ := hB
  rw [ht] at hP1
  obtain ⟨hP2, hD2⟩ := va_join (wr := wr) (w1 := w1 u) hP hD isC isR hC hR hnR hdis hk1 hFc hP1 hD1
  exact kk u H1 locs hw hP2 hD2 hS
theorem zz_SiG {post : Int32 → S → Prop} (SF : CallFix p m c cc nL s args Ts own) (cw : CallB R s args own index y bytes maxL ret wsc rm 0 0 n ∧ (Cond.static y).before args s = true) (hK : va_K D vwCl tys s) (hP : va_P D vwCl ws H) (hD : va_D A ws) (hS : va_S A s.heap H locs) (hA : ∀ q, s.heap.size ≤ q → A q) (hG : zG A0 adK adV s) (hAA : ∀ q, A q → A0 q)
    (hM : Met l y wsc rm (va_Pc As (zPG D tys H.size A0 adK adV wc)) (va_Qi post (fun u => zB D tys (va_A wc H.size) (w1 u)) (va_A wc H.size)) 0 0 (va_A wc H.size))
    (isC isR : List Nat) (hC : isC.map (fun i => ws[i]?) = wc.map some) (hR : isR.map (fun i => ws[i]?) = wr.map some) (hnR : va_nd isR = true) (hnC : va_nd isC = true) (hdis : ∀ i ∈ isR, i ∉ isC)
    (hst : st0 = As.reverse ++ rest) (hn : As.length = n) (hl : ls.size = nL) (hroom : (rest.map fun v => v.category).sum ≤ 8) (hdg : decode cc pc = .ok (.invokestatic index, 3)) (hc : cells ≤ R.cells) (hs : slots ≤ R.slots)
    (kk : ∀ (r : Int32) (u : S) (H1 : Heap) (locs1 : List Loc), post r u → va_P D vwCl (wr ++ w1 u) H1 → va_D A (wr ++ w1 u) → va_S A s.heap H1 locs1 → W p l e R s m args below meth c H1 locs1 cells slots Q (F0 m (pc + 3) ls (.int r :: rest))) :
    W p l e R s m args below meth c H locs cells slots Q (F0 m pc ls st0) := by
  subst hst
  have hPc : va_P D vwCl wc H := fun k q hk => by
    have h1 : (isC.map (fun i => ws[i]?))[k]? = some (some q) := by rw [hC, List.getElem?_map, hk]; rfl
    rw [List.getElem?_map] at h1
    cases hi : isC[k]? with
    | none => rw [hi] at h1; cases h1
    | some i => rw [hi] at h1; exact hP i q (Option.some.inj h1)
  have hDc : va_D A wc := hD.sub isC hnC hC
  have hFc := va_free (wc := wc) hD hS hA isC hC
  refine va_calli (va_runS (As := As) (rest := rest) SF hM cw ⟨zz_blindG, zz_preG hG hAA hS hK hPc hDc⟩ rfl hn hl rfl (lv_room hroom) hdg ⟨hc, hs⟩) hS (fun q _ h => hFc q h) hFc (fun r u t H1 locs ht hvm hw hB hz1 hk1 hS => ?_)
  obtain ⟨hP1, hK1, hD1⟩ := hB
  rw [ht] at hP1
  obtain ⟨hP2, hD2⟩ := va_join (wr := wr) (w1 := w1 u) hP hD isC isR hC hR hnR hdis hk1 hFc hP1 hD1
  exact kk r u H1 locs hw hP2 hD2 hS
end ZCALLG
section ZCALLS
variable {p : Program} {l : Launch} {e : Env} {R : Room} {s : State} {m : MethodId} {args : Array Value} {below : List Frame} {meth : Method} {c : Code} {H : Heap} {locs : List Loc} {cells slots : Nat} {Q : State → Prop}
variable {cc bytes : ByteArray} {nL maxL n index : Nat} {Ts wsc : List Cond} {own C : String} {y : MethodName} {ret : Option FieldType} {rm : Room} {D : va_G} {tys : List (ClassId × FieldType)} {ws wc wr : va_W} {S : Type} {w1 : S → va_W} {A : Nat → Prop} {pc : Nat} {ls : Array Slot} {b : Nat} {As rest st0 : List Value} {A0 : Nat → Prop} {adK adV : Nat → Nat}
theorem zz_ViS {post : Int32 → S → Prop} {k : Nat} (SF : CallFix p m c cc nL s args Ts own) (cw : CallW R s args own C index y bytes maxL ret wsc rm 0 0 n) (hK : va_K D vwCl tys s) (hP : va_P D vwCl ws H) (hD : va_D A ws) (hS : va_S A s.heap H locs) (hA : ∀ q, s.heap.size ≤ q → A q) (hG : zG A0 adK adV s) (hAA : ∀ q, A q → A0 q)
    (hM : Met l y wsc rm (va_Pc (.ref b :: As) (zPG D tys H.size A0 adK adV wc)) (va_Qi post (fun u => zB D tys (va_A wc H.size) (w1 u)) (va_A wc H.size)) 0 0 (va_A wc H.size))
    (isC isR : List Nat) (hC : isC.map (fun i => ws[i]?) = wc.map some) (hR : isR.map (fun i => ws[i]?) = wr.map some) (hnR : va_nd isR = true) (hnC : va_nd isC = true) (hdis : ∀ i ∈ isR, i ∉ isC) (hk : k < 2) (hbk : b = adK k) (hCs : C = "java/lang/String")
    (hst : st0 = As.reverse ++ .ref b :: rest) (hn : As.length = n) (hl : ls.size = nL) (hroom : (rest.map fun v => v.category).sum ≤ 8) (hdg : decode cc pc = .ok (.invokevirtual index, 3)) (hc : cells ≤ R.cells) (hs : slots ≤ R.slots)
    (kk : ∀ (r : Int32) (u : S) (H1 : Heap) (locs1 : List Loc), post r u → va_P D vwCl (wr ++ w1 u) H1 → va_D A (wr ++ w1 u) → va_S A s.heap H1 locs1 → W p l e R s m args below meth c H1 locs1 cells slots Q (F0 m (pc + 3) ls (.int r :: rest))) :
    W p l e R s m args below meth c H locs cells slots Q (F0 m pc ls st0) := by
  subst hst
  have hPc : va_P D vwCl wc H := fun k q hk => by
    have h1 : (isC.map (fun i => ws[i]?))[k]? = some (some q) := by rw [hC, List.getElem?_map, hk]; rfl
    rw [List.getElem?_map] at h1
    cases hi : isC[k]? with
    | none => rw [hi] at h1; cases h1
    | some i => rw [hi] at h1; exact hP i q (Option.some.inj h1)
  have hDc : va_D A wc := hD.sub isC hnC hC
  have hFc := va_free (wc := wc) hD hS hA isC hC
  refine va_calli (va_runV (As := As) (rest := rest) SF hM cw ⟨zz_blindG, by rw [hbk, hCs]; exact vk_recv (hG.2.1.narrow hAA) hk hS, zz_preG hG hAA hS hK hPc hDc⟩ rfl hn hl rfl (lv_room hroom) hdg ⟨hc, hs⟩) hS (fun q _ h => hFc q h) hFc (fun r u t H1 locs ht hvm hw hB hz1 hk1 hS => ?_)
  obtain ⟨hP1, hK1, hD1⟩ := hB
  rw [ht] at hP1
  obtain ⟨hP2, hD2⟩ := va_join (wr := wr) (w1 := w1 u) hP hD isC isR hC hR hnR hdis hk1 hFc hP1 hD1
  exact kk r u H1 locs hw hP2 hD2 hS
end ZCALLS
theorem zz_kI {D : va_G} {kI kZ cA : ClassId} {s : State} (h : va_K D vwCl (zT kI kZ ++ [(cA, .int)]) s) : cA = kI := by
  have h1 : s.vm.findClass ("[" ++ FieldType.int.toString) = some kI := (h.2 0 (kI, .int) rfl).2
  have h2 : s.vm.findClass ("[" ++ FieldType.int.toString) = some cA := (h.2 2 (cA, .int) rfl).2
  exact Option.some.inj (h2.symm.trans h1)
theorem zz_kZ {D : va_G} {kI kZ cA : ClassId} {s : State} (h : va_K D vwCl (zT kI kZ ++ [(cA, .boolean)]) s) : cA = kZ := by
  have h1 : s.vm.findClass ("[" ++ FieldType.boolean.toString) = some kZ := (h.2 1 (kZ, .boolean) rfl).2
  have h2 : s.vm.findClass ("[" ++ FieldType.boolean.toString) = some cA := (h.2 2 (cA, .boolean) rfl).2
  exact Option.some.inj (h2.symm.trans h1)
section ZOFI
variable {l : Launch} {y : MethodName} {wsm ws' : List Cond} {rm : Room} {cc : ByteArray} {maxL : Nat} {S : Type} {D : va_G} {tys : List (ClassId × FieldType)} {sz : Nat} {w0 : va_W} {w1 : S → va_W} {av : List Value} {A0 : Nat → Prop} {adK adV : Nat → Nat}
theorem zz_ofvI {mc ms : Nat} {post : S → Prop} (hy : plainName y.cls = true) (hw : wsm = Cond.code y cc maxL none :: ws') (hlen : (lg_sl av).length ≤ maxL) (hz : ∀ q, sz ≤ q → A0 q)
    (body : ∀ (p : Program) (e : Env) (s : State) (m : MethodId) (args : Array Value) (below : List Frame) (meth : Method) (c : Code) (A : Nat → Prop) (Q : State → Prop) (ls : Array Slot), p.tables.exec = Jvm.exec → c.code = cc → c.maxLocals = maxL → s.vm.findClass y.cls = some m.cls → (∀ w ∈ wsm, w.before args s = true) → va_K D vwCl tys s → (∀ q, s.heap.size ≤ q → A q) → zG A0 adK adV s → (∀ q, A q → A0 q) → meth.name = y.name →
      (∀ (u : S) (H : Heap) (locs : List Loc), post u → va_P D vwCl (w1 u) H → va_D A (w1 u) → va_S A s.heap H locs → ∀ (pc : Nat) (ls : Array Slot), decode cc pc = .ok (.return_, 1) → W p l e rm s m args below meth c H locs mc ms Q (F0 m pc ls [])) →
      va_P D vwCl w0 s.heap → va_D A w0 → va_S A s.heap s.heap [] → lv_has ls maxL (lv_args 0 av) → W p l e rm s m args below meth c s.heap [] 0 0 Q (F0 m 0 ls [])) :
    Met l y wsm rm (va_Pc av (zPG D tys sz A0 adK adV w0)) (va_Qv post (fun u => zB D tys (va_A w0 sz) (w1 u)) (va_A w0 sz)) mc ms (va_A w0 sz) := by
  refine Met.ofW (cc := cc) (maxL := maxL) (ret := none) hy hw ?_
  intro p e s m args below meth c s₁ B hml hv
  obtain ⟨ha, hsz, hP, hK, hD0, hG⟩ := hv
  subst hsz
  have hts := atoms_spec (ws := wsm) B.pre
  have hown : s.vm.findClass y.cls = some m.cls := findClass_of_methodNamed B.named
  have hD := hD0.self (sz := s.heap.size)
  have hl := lv_entry av (n := maxL) hlen
  have hE : entryFrame m args maxL = F0 m 0 ((lg_sl av ++ List.replicate (maxL - (lg_sl av).length) Slot.unset).toArray) [] := by rw [ha]; exact lg_entry_eq m av maxL
  rw [hE]
  exact body p e s m args below meth c (va_A w0 s.heap.size) _ _ B.exec B.bytes hml hown hts hK (fun q h => Or.inr h) hG (fun q h => h.elim (fun ⟨k, e, hk⟩ => hD0.2 k (q, e) hk) (hz q)) (name_of_methodNamed B.named B.method).1
    (fun u H locs h hP hD hS pc ls hd => W.vret B.exec B.bytes B.returns (fun t ht hW => ⟨⟨u, rfl, h, by rw [ht]; exact hP, va_K.moved hW.alike hK, hD⟩, hS.F ht⟩) hS.2.2 hd B.notSynchronized) hP hD va_S.rf hl
end ZOFI
section ZCALLI
variable {p : Program} {l : Launch} {e : Env} {R : Room} {s : State} {m : MethodId} {args : Array Value} {below : List Frame} {meth : Method} {c : Code} {H : Heap} {locs : List Loc} {cells slots : Nat} {Q : State → Prop}
variable {cc bytes : ByteArray} {nL maxL n index : Nat} {Ts wsc : List Cond} {own C : String} {y : MethodName} {ret : Option FieldType} {rm : Room} {D : va_G} {tys : List (ClassId × FieldType)} {ws wc wr : va_W} {S : Type} {w1 : S → va_W} {A : Nat → Prop} {pc : Nat} {ls : Array Slot} {b : Nat} {As rest st0 : List Value} {A0 : Nat → Prop} {adK adV : Nat → Nat}
theorem zz_IvG {post : S → Prop} {mc ms : Nat} (SF : CallFix p m c cc nL s args Ts own) (cw : CallB R s args own index y bytes maxL none wsc rm mc ms n ∧ y.name = "<init>" ∧ (Cond.instanceMethod y).before args s = true) (hK : va_K D vwCl tys s) (hP : va_P D vwCl ws H) (hD : va_D A ws) (hS : va_S A s.heap H locs) (hA : ∀ q, s.heap.size ≤ q → A q) (hG : zG A0 adK adV s) (hAA : ∀ q, A q → A0 q)
    (hM : Met l y wsc rm (va_Pc (.ref b :: As) (zPG D tys H.size A0 adK adV wc)) (va_Qv post (fun u => zB D tys (va_A wc H.size) (w1 u)) (va_A wc H.size)) mc ms (va_A wc H.size))
    (isC isR : List Nat) (hC : isC.map (fun i => ws[i]?) = wc.map some) (hR : isR.map (fun i => ws[i]?) = wr.map some) (hnR : va_nd isR = true) (hnC : va_nd isC = true) (hdis : ∀ i ∈ isR, i ∉ isC)
    (hst : st0 = As.reverse ++ .ref b :: rest) (hn : As.length = n) (hl : ls.size = nL) (hroom : (rest.map fun v => v.category).sum ≤ 8) (hdg : decode cc pc = .ok (.invokespecial index, 3)) (hc : cells + mc ≤ R.cells) (hs : slots + ms ≤ R.slots)
    (kk : ∀ (u : S) (H1 : Heap) (locs1 : List Loc), post u → va_P D vwCl (wr ++ w1 u) H1 → va_D A (wr ++ w1 u) → va_S A s.heap H1 locs1 → W p l e R s m args below meth c H1 locs1 (cells + mc) (slots + ms) Q (F0 m (pc + 3) ls rest)) :
    W p l e R s m args below meth c H locs cells slots Q (F0 m pc ls st0) := by
  subst hst
  have hPc : va_P D vwCl wc H := fun k q hk => by
    have h1 : (isC.map (fun i => ws[i]?))[k]? = some (some q) := by rw [hC, List.getElem?_map, hk]; rfl
    rw [List.getElem?_map] at h1
    cases hi : isC[k]? with
    | none => rw [hi] at h1; cases h1
    | some i => rw [hi] at h1; exact hP i q (Option.some.inj h1)
  have hDc : va_D A wc := hD.sub isC hnC hC
  have hFc := va_free (wc := wc) hD hS hA isC hC
  refine va_callv (va_runI (As := As) (rest := rest) SF hM cw ⟨zz_blindG, zz_preG hG hAA hS hK hPc hDc⟩ rfl hn hl rfl (lv_room hroom) hdg ⟨hc, hs⟩) hS (fun q _ h => hFc q h) hFc (fun u t H1 locs ht hvm hw hB hz1 hk1 hS => ?_)
  obtain ⟨hP1, hK1, hD1⟩ := hB
  rw [ht] at hP1
  obtain ⟨hP2, hD2⟩ := va_join (wr := wr) (w1 := w1 u) hP hD isC isR hC hR hnR hdis hk1 hFc hP1 hD1
  exact kk u H1 locs hw hP2 hD2 hS
theorem zz_IvN {post : S → Prop} {mc ms : Nat} {host : String} (SF : CallFix p m c cc nL s args Ts own) (cw : va_CN R s args own index y host bytes maxL none wsc rm mc ms n ∧ y.name = "<init>" ∧ (Cond.instanceMethod y).before args s = true) (hK : va_K D vwCl tys s) (hP : va_P D vwCl ws H) (hD : va_D A ws) (hS : va_S A s.heap H locs) (hA : ∀ q, s.heap.size ≤ q → A q) (hG : zG A0 adK adV s) (hAA : ∀ q, A q → A0 q)
    (hM : Met l y wsc rm (va_Pc (.ref b :: As) (zPG D tys H.size A0 adK adV wc)) (va_Qv post (fun u => zB D tys (va_A wc H.size) (w1 u)) (va_A wc H.size)) mc ms (va_A wc H.size))
    (isC isR : List Nat) (hC : isC.map (fun i => ws[i]?) = wc.map some) (hR : isR.map (fun i => ws[i]?) = wr.map some) (hnR : va_nd isR = true) (hnC : va_nd isC = true) (hdis : ∀ i ∈ isR, i ∉ isC)
    (hst : st0 = As.reverse ++ .ref b :: rest) (hn : As.length = n) (hl : ls.size = nL) (hroom : (rest.map fun v => v.category).sum ≤ 8) (hdg : decode cc pc = .ok (.invokespecial index, 3)) (hc : cells + mc ≤ R.cells) (hs : slots + ms ≤ R.slots)
    (kk : ∀ (u : S) (H1 : Heap) (locs1 : List Loc), post u → va_P D vwCl (wr ++ w1 u) H1 → va_D A (wr ++ w1 u) → va_S A s.heap H1 locs1 → W p l e R s m args below meth c H1 locs1 (cells + mc) (slots + ms) Q (F0 m (pc + 3) ls rest)) :
    W p l e R s m args below meth c H locs cells slots Q (F0 m pc ls st0) := by
  subst hst
  have hPc : va_P D vwCl wc H := fun k q hk => by
    have h1 : (isC.map (fun i => ws[i]?))[k]? = some (some q) := by rw [hC, List.getElem?_map, hk]; rfl
    rw [List.getElem?_map] at h1
    cases hi : isC[k]? with
    | none => rw [hi] at h1; cases h1
    | some i => rw [hi] at h1; exact hP i q (Option.some.inj h1)
  have hDc : va_D A wc := hD.sub isC hnC hC
  have hFc := va_free (wc := wc) hD hS hA isC hC
  refine va_callv (va_runIN (As := As) (rest := rest) SF hM cw ⟨zz_blindG, zz_preG hG hAA hS hK hPc hDc⟩ rfl hn hl rfl (lv_room hroom) hdg ⟨hc, hs⟩) hS (fun q _ h => hFc q h) hFc (fun u t H1 locs ht hvm hw hB hz1 hk1 hS => ?_)
  obtain ⟨hP1, hK1, hD1⟩ := hB
  rw [ht] at hP1
  obtain ⟨hP2, hD2⟩ := va_join (wr := wr) (w1 := w1 u) hP hD isC isR hC hR hnR hdis hk1 hFc hP1 hD1
  exact kk u H1 locs hw hP2 hD2 hS
end ZCALLI
