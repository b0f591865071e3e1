-- PURE 14: parse, timed, kept
theorem sim_parse {V : Nat} {f ar sp st ln en lt pk wf wz we : Nat → Int32} {u de ds dm w tf te lm me ms mm t p d fl : Int32} {K : Int32 → (Nat → Int32) → (Nat → Int32) → Int32 → (Nat → Int32) → Int32 → Int32 → Int32 → (Nat → Int32) → (Nat → Int32) → (Nat → Int32) → Int32 → Int32 → Int32 → Int32 → (Nat → Int32) → (Nat → Int32) → Int32 → (Nat → Int32) → Int32 → Int32 → Int32 → (Nat → Int32) → (Nat → Int32) → (Nat → Int32) → Prop} (hV : V < 9) (hB : Byt f) (h : ∀ r g x1 x2 x3 x4 x5 x6 x7 x8 x9 x10 x11 x12 y1 y2 y3 y4 y5 y6 y7 y8 y9, Byt g → K r g x1 x2 x3 x4 x5 x6 x7 x8 x9 x10 x11 x12 r g y1 y2 y3 y4 y5 y6 y7 y8 y9) : wp_X9_parse f (rwV V) (nI (upV V)) (nI (upV V + 1)) ar u (nV V) (nI (szV V)) sp de ds dm (cntV V) st ln en w tf te t p d fl (fun r g x1 x2 x3 x4 x5 x6 x7 x8 x9 x10 x11 x12 => wp_X10_parse (nI V) f lt lm pk me ms mm wf wz we t p d fl (fun r2 g2 y1 y2 y3 y4 y5 y6 y7 y8 y9 => K r g x1 x2 x3 x4 x5 x6 x7 x8 x9 x10 x11 x12 r2 g2 y1 y2 y3 y4 y5 y6 y7 y8 y9)) := by
  have inn : ∀ {x : Int32} {K2 : Int32 → Prop}, 0 ≤ x.toInt → x.toInt ≤ 4000 → K2 1 → wp_X10_in x 0 4000 K2 := fun {x K2} h1 h2 hk => ok_inI (A := 0) (B := 4000) rfl rfl (fun _ _ => hk) (fun q => by omega)
  have out : ∀ {x : Int32} {K2 : Int32 → Prop}, (x.toInt < 0 ∨ 4000 < x.toInt) → K2 0 → wp_X10_in x 0 4000 K2 := fun {x K2} h1 hk => ok_inI (A := 0) (B := 4000) rfl rfl (fun _ _ => by omega) (fun q => hk)
  refine ok_isStart (fun t1 t2 => br_f (by decide) (ok_isStart (fun p1 p2 => br_f (by decide) (ok_isStart (fun d1 d2 => bs_t (by decide) ?_) (fun d1 => bs_f rfl (inn t1 t2 (br_f (by decide) (inn p1 p2 (br_f (by decide) (out d1 (bs_f rfl (h _ _ _ _ _ _ _ _ _ _ _ _ _ _ _ _ _ _ _ _ _ _ _ hB))))))))))
    (fun p1 => br_t rfl (inn t1 t2 (br_f (by decide) (out p1 (br_t rfl (h _ _ _ _ _ _ _ _ _ _ _ _ _ _ _ _ _ _ _ _ _ _ _ hB))))))))
    (fun t1 => br_t rfl (out t1 (br_t rfl (h _ _ _ _ _ _ _ _ _ _ _ _ _ _ _ _ _ _ _ _ _ _ _ hB))))
  have et : t = nI t.toInt.toNat := i_nI t1
  have ep : p = nI p.toInt.toNat := i_nI p1
  have ed : d = nI d.toInt.toNat := i_nI d1
  have mo : ∀ {r : Int32} {g : Nat → Int32} {x1 x2 x3 x4 x5 x6 x7 x8 x9 x10 x11 x12}, (pOK V f t.toInt.toNat p.toInt.toNat d.toInt.toNat → r = nI (WL V f t.toInt.toNat d.toInt.toNat).length ∧ g = telF V f t.toInt.toNat p.toInt.toNat d.toInt.toNat fl (mny V f t.toInt.toNat p.toInt.toNat d.toInt.toNat)) → (¬ pOK V f t.toInt.toNat p.toInt.toNat d.toInt.toNat → r = -3 ∧ g = f) → wp_X10_parse (nI V) f lt lm pk me ms mm wf wz we t p d fl (fun r2 g2 y1 y2 y3 y4 y5 y6 y7 y8 y9 => K r g x1 x2 x3 x4 x5 x6 x7 x8 x9 x10 x11 x12 r2 g2 y1 y2 y3 y4 y5 y6 y7 y8 y9) := fun {r g x1 x2 x3 x4 x5 x6 x7 x8 x9 x10 x11 x12} h1 h2 => by
    refine inn t1 t2 (br_f (by decide) (inn p1 p2 (br_f (by decide) (inn d1 d2 (bs_t (by decide) ?_)))))
    rw [et, ep, ed]
    refine ok_parses hV hB (by omega) (by omega) (by omega) (fun pok y1 y2 y3 y4 y5 y6 y7 y8 y9 => ?_) (fun np y1 y2 y3 y4 y5 y6 y7 y8 y9 => ?_)
    · obtain ⟨e1, e2⟩ := h1 pok
      rw [e1, e2]
      exact h _ _ _ _ _ _ _ _ _ _ _ _ _ _ _ _ _ _ _ _ _ _ _ (telF_byt hB pok.2.1 _)
    · obtain ⟨e1, e2⟩ := h2 np
      rw [e1, e2]
      exact h _ _ _ _ _ _ _ _ _ _ _ _ _ _ _ _ _ _ _ _ _ _ _ hB
  rw [et, ep, ed]
  refine ok_run hB (by omega) (by omega) (by omega) (fun pok x1 x2 x3 x4 x5 x6 x7 x8 x9 x10 x11 x12 => ?_) (fun np x1 x2 x3 x4 x5 x6 x7 x8 x9 x10 x11 x12 => ?_)
  · rw [← et, ← ep, ← ed]
    exact mo (fun _ => ⟨rfl, rfl⟩) (fun z => absurd pok z)
  · rw [← et, ← ep, ← ed]
    exact mo (fun z => absurd z np) (fun _ => ⟨rfl, rfl⟩)
/-- the clock: the program counts ticks since the latest call, the reference all of them -/
def RClk (B : Nat) (ca ev an ad si ev' an' go' ca' ad' : Int32) : Prop := ∃ e c, ev = nI e ∧ ev' = nI e ∧ e ≤ 1000 ∧ ca = nI c ∧ ca' = nI c ∧ c ≤ B ∧ (0 < e → an = an' ∧ ∃ g a, si = nI (g % e) ∧ go' = nI g ∧ g ≤ B ∧ ad' = nI a ∧ a ≤ B ∧ ad = nI (min a 32))
theorem RClk.mono {B B2 : Nat} {ca ev an ad si ev' an' go' ca' ad' : Int32} (h : RClk B ca ev an ad si ev' an' go' ca' ad') (hB : B ≤ B2) : RClk B2 ca ev an ad si ev' an' go' ca' ad' := by
  obtain ⟨e, c, h1, h2, h3, h4, h5, h6, h7⟩ := h
  refine ⟨e, c, h1, h2, h3, h4, h5, by omega, fun he => ?_⟩
  obtain ⟨h8, g, a, h9, h10, h11, h12, h13, h14⟩ := h7 he
  exact ⟨h8, g, a, h9, h10, by omega, h12, by omega, h14⟩
theorem sim_timed {B V : Nat} {op ca ev an ad si ev' an' go' ca' ad' n m : Int32} {K : Int32 → Int32 → Int32 → Int32 → Int32 → Int32 → Int32 → Int32 → Int32 → Int32 → Prop} (hR : RClk B ca ev an ad si ev' an' go' ca' ad') (h : ∀ r x1 x2 x3 x4 y1 y2 y3 y4, RClk B ca x1 x2 x3 x4 y1 y2 y3 ca' y4 → K r x1 x2 x3 x4 r y1 y2 y3 y4) : wp_X9_timed (nI V) op ca ev an ad si n m (fun r x1 x2 x3 x4 => wp_X10_timed (nI V) op ev' an' go' ca' ad' n m (fun r2 y1 y2 y3 y4 => K r x1 x2 x3 x4 r2 y1 y2 y3 y4)) := by
  have z0 : (0 : Int32).toInt = 0 := rfl
  have z1 : (1000 : Int32).toInt = 1000 := rfl
  obtain ⟨e, c, h1, h2, h3, h4, h5, h6, h7⟩ := id hR
  refine bs_c (fun q => br_c (fun v => bs_t q (br_t v (h _ _ _ _ _ _ _ _ _ hR))) (fun v => br_c (fun a => bs_t q (br_f v (ok_inI (A := 0) (B := 1000) rfl rfl (fun _ _ => ?_) (fun _ => bs_f rfl (h _ _ _ _ _ _ _ _ _ hR))))) (fun a => br_c (fun b => bs_t q (br_f v (ok_inI (A := 0) (B := 1000) rfl rfl (fun w1 w2 => bs_t (by decide) ?_) (fun w => ?_)))) (fun b => bs_t q (br_f v (ok_inI (A := 0) (B := 1000) rfl rfl (fun _ _ => ?_) (fun _ => bs_f rfl (h _ _ _ _ _ _ _ _ _ hR)))))))) (fun q => bs_f q (h _ _ _ _ _ _ _ _ _ hR))
  · rw [i_lt] at a; omega
  · have hh := h ca n m 0 0 n m 0 0 ⟨n.toInt.toNat, c, i_nI w1, i_nI w1, by omega, h4, h5, h6, fun he => ⟨rfl, 0, 0, by rw [Nat.zero_mod]; rfl, rfl, Nat.zero_le _, rfl, Nat.zero_le _, rfl⟩⟩
    rw [h4] at hh ⊢
    rw [h5]
    exact hh
  · rw [i_lt] at a; rw [i_le] at b; omega
  · rw [i_le] at b; omega
/-- the lines: the program keeps a ring, the reference a row -/
def RLn (k la : Nat) (ll lcd ls' ln' : Nat → Int32) : Prop := k ≤ 8 ∧ la < 8 ∧ ∀ j, j < k → ∃ len, 0 < len ∧ len ≤ 255 ∧ ll ((la + 8 - j) % 8) = nI len ∧ ls' (k - 1 - j) = nI len ∧ ∀ i, i < len → lcd ((la + 8 - j) % 8 * 255 + i) = ln' (256 * (k - 1 - j) + i) ∧ ∃ c, c < 256 ∧ ln' (256 * (k - 1 - j) + i) = nI c
theorem ok_slot {k la j : Nat} {K : Int32 → Prop} (hk : k ≤ 8) (hla : la < 8) (hj : j < k) (h : K (nI ((la + 8 - j) % 8))) : wp_X3_slotOf (nI k) (nI la) (nI j) K := by
  refine br_f (nI_pos (by omega)) (br_f (nI_ge hj (by omega)) ?_)
  rw [show (nI la + 8 : Int32) = nI (la + 8) from nI_add _ 8, pk_sub (by omega), rem_8 (by omega)]
  exact h
theorem ok_slot_out {k la : Nat} {x : Int32} {K : Int32 → Prop} (hk : k ≤ 8) (hx : x.toInt < 0 ∨ (k : Int) ≤ x.toInt) (h : K (-1)) : wp_X3_slotOf (nI k) (nI la) x K := by
  have ek : (nI k).toInt = k := nI_toInt (by omega)
  have z0 : (0 : Int32).toInt = 0 := rfl
  by_cases q : x.toInt < 0
  · exact br_t (by rw [i_lt]; omega) h
  · exact br_f (by rw [i_lt]; omega) (br_t (by rw [i_le]; omega) h)
theorem ok_len3 {k la j : Nat} {ll : Nat → Int32} {K : Int32 → Prop} (hk : k ≤ 8) (hla : la < 8) (hj : j < k) (h : K (ll ((la + 8 - j) % 8))) : wp_X3_length (nI k) (nI la) ll (nI j) K := by
  have hm : (la + 8 - j) % 8 < 8 := Nat.mod_lt _ (by decide)
  refine ok_slot hk hla hj (br_f (nI_pos (by omega)) (br_f (nI_ge (b := 8) hm (by decide)) ⟨vp_in_nI hm (by decide), ?_⟩))
  rw [nI_clamp (by omega)]
  exact h
theorem ok_len3_out {k la : Nat} {x : Int32} {ll : Nat → Int32} {K : Int32 → Prop} (hk : k ≤ 8) (hx : x.toInt < 0 ∨ (k : Int) ≤ x.toInt) (h : K 0) : wp_X3_length (nI k) (nI la) ll x K := ok_slot_out hk hx (br_t (by decide) h)
theorem ok_code3 {k la j i len : Nat} {ll lcd : Nat → Int32} {K : Int32 → Prop} (hk : k ≤ 8) (hla : la < 8) (hj : j < k) (hl : ll ((la + 8 - j) % 8) = nI len) (hlen : len ≤ 255) (hi : i < len) (h : K (lcd ((la + 8 - j) % 8 * 255 + i))) : wp_X3_code (nI k) (nI la) ll lcd (nI j) (nI i) K := by
  have hm : (la + 8 - j) % 8 < 8 := Nat.mod_lt _ (by decide)
  obtain ⟨m, em⟩ : ∃ m, m = (la + 8 - j) % 8 := ⟨_, rfl⟩
  rw [← em] at hm h
  refine ok_slot hk hla hj (nm_r (e' := nI (m * 255 + i)) (by rw [← em, show (nI m * 255 : Int32) = nI (m * 255) from pk_mul _ 255, nI_add]) (br_f (nI_pos (by omega)) (ok_len3 hk hla hj ?_)))
  rw [hl]
  refine br_f (nI_ge hi (by omega)) (br_f (nI_pos (by omega)) (br_f (nI_ge (b := 2040) (by omega) (by decide)) ⟨vp_in_nI (by omega) (by decide), ?_⟩))
  rw [nI_clamp (by omega)]
  exact h
theorem sim_kept {k la : Nat} {ll lcd ls' ln' : Nat → Int32} {a b : Int32} {K : Int32 → Int32 → Prop} (hR : RLn k la ll lcd ls' ln') (h : ∀ r, K r r) : wp_X9_kept (nI k) (nI la) ll lcd a b (fun r => wp_X10_kept ls' ln' (nI k) a b (fun r2 => K r r2)) := by
  obtain ⟨hk, hla, hj⟩ := hR
  have z0 : (0 : Int32).toInt = 0 := rfl
  have ek1 : (nI k - 1).toInt = (k : Int) - 1 := m1_toInt (by omega)
  have hb := i_rng b
  -- outside the lines
  have outm : (a.toInt < 0 ∨ (k : Int) ≤ a.toInt) → wp_X10_kept ls' ln' (nI k) a b (fun r2 => K (-2) r2) := fun q => ok_inI (A := 0) (B := (k : Int) - 1) rfl ek1 (fun _ _ => by omega) (fun _ => br_t rfl (h _))
  by_cases qa : a.toInt < 0 ∨ (k : Int) ≤ a.toInt
  · refine br_c (fun _ => outm qa) (fun q => ok_len3_out hk qa (br_t ?_ (outm qa)))
    rw [i_lt] at q; rw [i_le]; omega
  · obtain ⟨j, ej⟩ : ∃ j : Nat, j = a.toInt.toNat := ⟨_, rfl⟩
    have ea : a = nI j := by rw [ej]; exact i_nI (by omega)
    have hjk : j < k := by omega
    obtain ⟨len, l0, l1, l2, l3, l4⟩ := hj j hjk
    have ean : (nI j).toInt = j := nI_toInt (by omega)
    have el : (nI len).toInt = len := nI_toInt (by omega)
    have el1 : (nI len - 1).toInt = (len : Int) - 1 := m1_toInt (by omega)
    have sub1 : (nI k - 1 : Int32) - nI j = nI (k - 1 - j) := by rw [show (nI k - 1 : Int32) = nI (k - 1) from pk_sub (b := 1) (by omega), pk_sub (by omega)]
    have cl1 : (nI (k - 1 - j)).toNatClampNeg = k - 1 - j := nI_clamp (by omega)
    have vk : vp_in (nI (k - 1 - j)) 8 := vp_in_nI (by omega) (by decide)
    rw [ea]
    have mo : ∀ {r : Int32}, ((b.toInt < 0 ∨ (len : Int) ≤ b.toInt) → r = -2) → ((0 ≤ b.toInt ∧ b.toInt < len) → r = ln' (256 * (k - 1 - j) + b.toInt.toNat)) → wp_X10_kept ls' ln' (nI k) (nI j) b (fun r2 => K r r2) := fun {r} h1 h2 => by
      refine ok_inI (A := 0) (B := (k : Int) - 1) rfl ek1 (fun _ _ => br_f (by decide) ?_) (fun w => by rw [ean] at w; omega)
      rw [sub1, cl1, l3]
      refine ⟨vk, ok_inI (A := 0) (B := (len : Int) - 1) rfl el1 (fun w1 w2 => br_f (by decide) ?_) (fun w => br_t rfl ?_)⟩
      · have eb : b = nI b.toInt.toNat := i_nI w1
        have e3 : (256 : Int32) * nI (k - 1 - j) + b = nI (256 * (k - 1 - j) + b.toInt.toNat) := by
          conv => lhs; rw [eb]
          rw [show (256 : Int32) * nI (k - 1 - j) = nI (256 * (k - 1 - j)) from pk_mul 256 _, nI_add]
        rw [e3, nI_clamp (by omega), h2 ⟨w1, by omega⟩]
        exact ⟨vp_in_nI (by omega) (by decide), h _⟩
      · rw [h1 (by omega)]; exact h _
    refine br_c (fun q => mo (fun _ => rfl) (fun w => ?_)) (fun q => ok_len3 hk hla hjk ?_)
    · rw [i_lt] at q; omega
    · rw [i_lt] at q
      rw [l2]
      refine br_c (fun w => mo (fun _ => rfl) (fun w2 => ?_)) (fun w => ?_)
      · rw [i_le] at w; omega
      · rw [i_le] at w
        have eb : b = nI b.toInt.toNat := i_nI (by omega)
        have hbl : b.toInt.toNat < len := by omega
        have goal := ok_code3 (lcd := lcd) (K := fun r => wp_X10_kept ls' ln' (nI k) (nI j) b (fun r2 => K r r2)) hk hla hjk l2 l1 hbl (mo (fun w2 => by omega) (fun _ => (l4 _ hbl).1))
        rw [← eb] at goal
        exact goal
