-- PURE 6: the reference's packing, and pack
def vwF (l : Nat → Nat) (W w : Nat) : Nat := (if w = W - 1 then 32768 else 0) + l (3 * w) * 1024 + l (3 * w + 1) * 32 + l (3 * w + 2)
def ocF (l : Nat → Nat) (W k : Nat) : Nat := if k % 2 = 0 then vwF l W (k / 2) / 256 else vwF l W (k / 2) % 256
theorem vwF_lt {l : Nat → Nat} {W w : Nat} (hl : ∀ j, l j < 32) : vwF l W w < 65536 := by
  have h0 := hl (3 * w)
  have h1 := hl (3 * w + 1)
  have h2 := hl (3 * w + 2)
  unfold vwF
  split <;> omega
theorem ocF_lt {l : Nat → Nat} {W k : Nat} (hl : ∀ j, l j < 32) : ocF l W k < 256 := by
  have := vwF_lt (W := W) (w := k / 2) hl
  unfold ocF
  split <;> omega
theorem szV_2 (V : Nat) : (szV V = 4 ∧ nV V = 6) ∨ (szV V = 6 ∧ nV V = 9) := by unfold szV nV; split <;> simp
theorem ok_pksz {V : Nat} {K : Int32 → Prop} (hV : V < 9) (h : K (nI (szV V))) : wp_X10_packedSize (nI V) K := by
  by_cases q : V ≤ 3
  · have e : szV V = 4 := if_pos q
    rw [e] at h
    exact br_f (nI_nlt (a := 3) q (by decide)) h
  · have e : szV V = 6 := if_neg q
    rw [e] at h
    exact br_t (nI_lt (a := 3) (by omega) (by omega)) h
theorem shl_a : ∀ k, k < 3 → ((10 : Int32) - 5 * nI k) &&& 31 = nI (10 - 5 * k) := by decide +kernel
theorem shl_b : ∀ k, k < 3 → ((nI (10 - 5 * k)).toBitVec.smod 32).toNat = 10 - 5 * k := by decide +kernel
theorem shl_c {n k : Nat} (hk : k < 3) (hn : n < 32) : nI n <<< (((10 : Int32) - 5 * nI k) &&& 31) = nI (n * 2 ^ (10 - 5 * k)) := by
  rw [shl_a k hk]
  refine pk_shlN _ _ (shl_b k hk) ?_
  have : 2 ^ (10 - 5 * k) ≤ 2 ^ 10 := Nat.pow_le_pow_right (by decide) (by omega)
  calc n * 2 ^ (10 - 5 * k) ≤ 32 * 2 ^ 10 := Nat.mul_le_mul (by omega) this
    _ < 2 ^ 32 := by decide
theorem shr_8 {n : Nat} (h : n < 65536) : nI n >>> ((8 : Int32) &&& 31) = nI (n / 256) := pk_shrN (by omega) _ 8 (by decide)
theorem and_255 {n : Nat} (h : n < 65536) : nI n &&& 255 = nI (n % 256) := pk_andN (m := 255) (by omega) 8 (by decide)
theorem snk_5 {cap j : Nat} {ls : List Nat} {ar : Nat → Int32} (h : Snk cap ls ar) (hj : j < cap) (hl : j < ls.length) : ar j = nI (ls.getD j 5) := by
  rw [h j hl hj]
  congr 1
  rw [List.getD_eq_getElem?_getD, List.getD_eq_getElem?_getD, List.getElem?_eq_getElem hl]
  rfl
theorem d5 {j : Nat} {ls : List Nat} (hl : ls.length ≤ j) : ls.getD j 5 = 5 := by
  rw [List.getD_eq_getElem?_getD, List.getElem?_eq_none hl]
  rfl
theorem ok_tlM {V : Nat} {ls : List Nat} {lt pk : Nat → Int32} {K : (Nat → Int32) → Int32 → (Nat → Int32) → Prop} (hV : V < 9) (hl : ∀ j, ls.getD j 5 < 32) (hs : Snk 1040 ls lt) (h : ∀ pk', (∀ k, k < szV V → pk' k = nI (ocF (fun j => ls.getD j 5) (szV V / 2) k)) → K lt (nI (min ls.length 1040)) pk') : tlM K (nI V) pk lt (nI (min ls.length 1040)) := by
  obtain ⟨l, el⟩ : ∃ l : Nat → Nat, l = fun j => ls.getD j 5 := ⟨_, rfl⟩
  rw [← el] at h
  have hl2 : ∀ j, l j < 32 := by rw [el]; exact hl
  obtain ⟨W, eW⟩ : ∃ W, W = szV V / 2 := ⟨_, rfl⟩
  rw [← eW] at h
  have hsz : szV V = 2 * W := by rcases szV_2 V with q | q <;> omega
  have hW : W = 2 ∨ W = 3 := by rcases szV_2 V with q | q <;> omega
  refine ok_pksz hV (nm_r (e' := nI W) (by rw [eW]; exact pk_div (d := 2) (by omega) (by decide) (by decide)) ?_)
  intro L40 h40
  have key : ∀ w, w ≤ W → ∀ pk1 : Nat → Int32, (∀ k, k < 2 * w → pk1 k = nI (ocF l W k)) → L40 (nI w) pk1 := by
    refine for_up (P := fun w => ∀ pk1 : Nat → Int32, (∀ k, k < 2 * w → pk1 k = nI (ocF l W k)) → L40 (nI w) pk1) ?_ (fun w hw ih => ?_)
    · intro pk1 h1
      exact h40 _ _ (br_t (nI_le (Nat.le_refl W) (by omega)) (h pk1 (fun k hk => h1 k (by omega))))
    · intro pk1 h1
      have hv := vwF_lt (W := W) (w := w) hl2
      have ih2 := ih (upd (upd pk1 (2 * w) (nI (vwF l W w / 256))) (2 * w + 1) (nI (vwF l W w % 256))) (fun k hk => by
        by_cases e1 : k = 2 * w + 1
        · subst e1
          rw [pk_us]
          unfold ocF
          rw [if_neg (by omega), show (2 * w + 1) / 2 = w by omega]
        · rw [pk_un e1]
          by_cases e2 : k = 2 * w
          · subst e2
            rw [pk_us]
            unfold ocF
            rw [if_pos (by omega), show 2 * w / 2 = w by omega]
          · rw [pk_un e2]
            exact h1 k (by omega))
      have hw31 : ¬ nI W ≤ nI w := nI_ge hw (by omega)
      have m2 : (2 : Int32) * nI w = nI (2 * w) := pk_mul 2 w
      have i1 : vp_in (nI (2 * w)) 6 := vp_in_nI (by omega) (by decide)
      have i2 : vp_in (nI (2 * w + 1)) 6 := vp_in_nI (by omega) (by decide)
      have cl1 : (nI (2 * w)).toNatClampNeg = 2 * w := nI_clamp (by omega)
      have cl2 : (nI (2 * w + 1)).toNatClampNeg = 2 * w + 1 := nI_clamp (by omega)
      have hc : nI w = nI (W - 1) ↔ w = W - 1 := nI_eq (by omega) (by omega)
      have hW1 : (nI W - 1 : Int32) = nI (W - 1) := pk_sub (b := 1) (by omega)
      have st : ∀ {L65 : Int32 → Int32 → Prop}, (∀ (x5 x6 : Int32), ¬ 3 ≤ x6 → (∀ J101 : Int32 → Prop, (∀ (y_2 : Int32), (∀ v_2 : Int32, v_2 = (x5 + (y_2 <<< ((10 - (5 * x6)) &&& 31))) → (L65 v_2 (x6 + 1))) → J101 y_2) → (((nI (min ls.length 1040) ≤ ((3 * nI w) + x6)) → (J101 5)) ∧ ((¬ nI (min ls.length 1040) ≤ ((3 * nI w) + x6)) → (vp_in ((3 * nI w) + x6) 1040 ∧ (J101 (lt (Int32.toNatClampNeg ((3 * nI w) + x6)))))))) → L65 x5 x6) → ∀ k, k < 3 → ∀ x, L65 (nI (x + l (3 * w + k) * 2 ^ (10 - 5 * k))) (nI (k + 1)) → L65 (nI x) (nI k) := by
        intro L65 h65 k hk x hx
        have e3 : (3 : Int32) * nI w + nI k = nI (3 * w + k) := by rw [show (3 : Int32) * nI w = nI (3 * w) from pk_mul 3 w, nI_add]
        refine h65 _ _ (nI_ge (b := 3) hk (by decide)) (fun J101 h101 => ?_)
        have j1 : J101 (nI (l (3 * w + k))) := h101 _ (fun v2 e => by
          rw [shl_c hk (hl2 _), nI_add] at e
          rw [e, nI_1]
          exact hx)
        rw [e3]
        clear h101
        by_cases q : ls.length ≤ 3 * w + k
        · have e5 : l (3 * w + k) = 5 := by rw [el]; exact d5 q
          rw [e5] at j1
          exact br_t (nI_le (by omega) (by omega)) j1
        · refine br_f (nI_ge (by omega) (by omega)) ⟨vp_in_nI (by omega) (by decide), ?_⟩
          rw [nI_clamp (by omega), snk_5 hs (by omega) (by omega)]
          rw [el] at j1
          exact j1
      refine h40 _ _ (br_f hw31 (fun J60 h60 => ?_))
      have fin : J60 (nI (if w = W - 1 then 32768 else 0)) := by
        refine h60 _ (fun L65 h65 => ?_)
        have l3 : L65 (nI (vwF l W w)) (nI 3) := by
          refine h65 _ _ (br_t (by decide) ?_)
          rw [m2, nI_1, nI_1, shr_8 hv, and_255 hv, cl1, cl2]
          exact ⟨i1, i2, ih2⟩
        have s2 := st (L65 := L65) (fun x5 x6 hn hh => h65 x5 x6 ⟨fun q3 => absurd q3 hn, fun _ => hh⟩)
        · have e : ∀ A B C D : Nat, A + B * 2 ^ (10 - 5 * 0) + C * 2 ^ (10 - 5 * 1) + D * 2 ^ (10 - 5 * 2) = A + B * 1024 + C * 32 + D := fun A B C D => by omega
          refine s2 0 (by decide) _ (s2 1 (by decide) _ (s2 2 (by decide) _ ?_))
          rw [e]
          exact l3
      rw [hW1]
      refine bs_c (fun z => ?_) (fun z => ?_)
      · rw [if_neg (fun z2 => z (hc.mpr z2))] at fin
        exact fin
      · rw [if_pos (hc.mp z)] at fin
        exact fin
  exact key 0 (Nat.zero_le _) pk (fun k hk => absurd hk (by omega))
theorem ok_packs {V : Nat} {f lt pk : Nat → Int32} {lm : Int32} {a n : Nat} {K : (Nat → Int32) → Int32 → (Nat → Int32) → Prop} {x : Int32} (hV : V < 9) (hB : Byt f) (hn31 : n < 2 ^ 31) (hm : n = 0 ∨ (x = nI a ∧ a + n ≤ 4096)) (h : ∀ lt' lm' pk', (∀ k, k < szV V → pk' k = nI (ocF (fun j => (allL V f a n).getD j 5) (szV V / 2) k)) → K lt' lm' pk') : wp_X10_packs (nI V) f lt lm pk x (nI n) K := by
  intro L hL
  have key : ∀ i, i ≤ n → ∀ ar1, Snk 1040 (allL V f a i) ar1 → L (nI i) ar1 (nI (min (allL V f a i).length 1040)) := by
    refine for_up (P := fun i => ∀ ar1, Snk 1040 (allL V f a i) ar1 → L (nI i) ar1 (nI (min (allL V f a i).length 1040))) ?_ (fun i hi ih => ?_)
    · intro ar1 h1
      exact hL _ _ _ (br_t (nI_le (Nat.le_refl n) hn31) (ok_tlM hV (allL_d hB) h1 (fun pk' hp => h _ _ _ hp)))
    · intro ar1 h1
      have hx2 := hm.resolve_left (by omega)
      have e3 : a + i < 4096 := by omega
      refine hL _ _ _ (br_f (nI_ge hi hn31) ?_)
      rw [hx2.1, nI_add, nI_clamp (by omega), (gv_ok hB (a + i)).2, nI_1]
      exact ⟨vp_in_nI e3 (by decide), ok_code hV (gv_ok hB _).1 h1 (fun ar2 h2 => ih ar2 h2)⟩
  exact key 0 (Nat.zero_le _) lt Snk.nil
theorem wN_6 (l : Nat → Nat) : wN l 6 6 = (l 0 * 1024 + l 1 * 32 + l 2) * 65536 + (32768 + l 3 * 1024 + l 4 * 32 + l 5) := by
  simp [wN]
  omega
theorem wN_9 (l : Nat → Nat) : wN l 9 9 = (l 0 * 1024 + l 1 * 32 + l 2) * 4294967296 + (l 3 * 1024 + l 4 * 32 + l 5) * 65536 + (32768 + l 6 * 1024 + l 7 * 32 + l 8) := by
  simp [wN]
  omega
theorem oc_6 {l : Nat → Nat} (hl : ∀ j, l j < 32) : ∀ k, k < 4 → wN l 6 6 / 2 ^ (8 * (4 - 1 - k)) % 256 = ocF l 2 k := by
  have h0 := hl 0
  have h1 := hl 1
  have h2 := hl 2
  have h3 := hl 3
  have h4 := hl 4
  have h5 := hl 5
  intro k hk
  rw [wN_6]
  match k, hk with
  | 0, _ => simp [ocF, vwF]; omega
  | 1, _ => simp [ocF, vwF]; omega
  | 2, _ => simp [ocF, vwF]; omega
  | 3, _ => simp [ocF, vwF]; omega
theorem oc_9 {l : Nat → Nat} (hl : ∀ j, l j < 32) : ∀ k, k < 6 → wN l 9 9 / 2 ^ (8 * (6 - 1 - k)) % 256 = ocF l 3 k := by
  have h0 := hl 0
  have h1 := hl 1
  have h2 := hl 2
  have h3 := hl 3
  have h4 := hl 4
  have h5 := hl 5
  have h6 := hl 6
  have h7 := hl 7
  have h8 := hl 8
  intro k hk
  rw [wN_9]
  match k, hk with
  | 0, _ => simp [ocF, vwF]; omega
  | 1, _ => simp [ocF, vwF]; omega
  | 2, _ => simp [ocF, vwF]; omega
  | 3, _ => simp [ocF, vwF]; omega
  | 4, _ => simp [ocF, vwF]; omega
  | 5, _ => simp [ocF, vwF]; omega
/-- the k-th octet of the packed word of n codes from a on -/
def oct (V : Nat) (f : Nat → Int32) (a n k : Nat) : Nat := ocF (fun j => (allL V f a n).getD j 5) (szV V / 2) k
theorem oct_lt {V : Nat} {f : Nat → Int32} {a n k : Nat} (hB : Byt f) : oct V f a n k < 256 := ocF_lt (allL_d hB)
theorem oct_oc8 {V : Nat} {f : Nat → Int32} {a n k : Nat} (hB : Byt f) (hk : k < szV V) : oc8 (lN (wrd V f a n)) (8 * (szV V - 1 - k)) = nI (oct V f a n k) := by
  have hl := allL_d (V := V) (a := a) (n := n) hB
  unfold oc8 oct wrd
  rcases szV_2 V with ⟨h1, h2⟩ | ⟨h1, h2⟩
  · rw [h1] at hk
    rw [h1, h2]
    have hlt : wN (fun j => (allL V f a n).getD j 5) 6 6 < 2 ^ 64 := by
      have h0 := hl 0; have h1 := hl 1; have h2 := hl 2; have h3 := hl 3; have h4 := hl 4; have h5 := hl 5
      rw [wN_6]; omega
    rw [wb_tn hlt, oc_6 hl k hk]
  · rw [h1] at hk
    rw [h1, h2]
    have hlt : wN (fun j => (allL V f a n).getD j 5) 9 9 < 2 ^ 64 := by
      have h0 := hl 0; have h1 := hl 1; have h2 := hl 2; have h3 := hl 3; have h4 := hl 4; have h5 := hl 5; have h6 := hl 6; have h7 := hl 7; have h8 := hl 8
      rw [wN_9]; omega
    rw [wb_tn hlt, oc_9 hl k hk]
theorem blk_congr {f w w' : Nat → Int32} {a k : Nat} (h : ∀ i, i < k → w i = w' i) : blk f a w k = blk f a w' k := by
  funext j
  unfold blk
  by_cases q : a ≤ j ∧ j < a + k
  · rw [if_pos q, if_pos q, h _ (by omega)]
  · rw [if_neg q, if_neg q]
theorem sim_pack {V : Nat} {f ar lt pk : Nat → Int32} {u lm : Int32} {a n t : Int32} {K : Int32 → (Nat → Int32) → (Nat → Int32) → Int32 → Int32 → (Nat → Int32) → (Nat → Int32) → Int32 → (Nat → Int32) → Prop} (hV : V < 9) (hB : Byt f) (h : ∀ r g a1 a2 a3 a4 a5, Byt g → K r g a1 a2 r g a3 a4 a5) : wp_X9_pack f (nI (szV V)) (rwV V) (nI (upV V)) (nI (upV V + 1)) ar u (nV V) a n t (fun r g a1 a2 => wp_X10_pack (nI V) f lt lm pk a n t (fun r2 g2 a3 a4 a5 => K r g a1 a2 r2 g2 a3 a4 a5)) := by
  have hn := i_rng n
  have ha := i_rng a
  have ht := i_rng t
  have z0 : (0 : Int32).toInt = 0 := rfl
  have z255 : (255 : Int32).toInt = 255 := rfl
  have hsz : szV V = 4 ∨ szV V = 6 := by rcases szV_2 V with q | q <;> omega
  have bad : (n.toInt < 0 ∨ 255 < n.toInt) → wp_X10_pack (nI V) f lt lm pk a n t (fun r2 g2 a3 a4 a5 => K (-2) f ar u r2 g2 a3 a4 a5) := fun c => ok_inI (A := 0) (B := 255) rfl rfl (fun _ _ => by omega) (fun _ => bs_f rfl (h _ _ _ _ _ _ _ hB))
  refine br_c (fun c => bad (Or.inl (by rw [i_lt] at c; omega))) (fun c => br_c (fun d => ?_) (fun d => bad (Or.inr (by rw [i_le] at d; omega))))
  rw [i_lt] at c
  rw [i_le] at d
  obtain ⟨k, hk⟩ : ∃ k : Nat, k = n.toInt.toNat := ⟨_, rfl⟩
  have en : n = nI k := by rw [hk]; exact i_nI (by omega)
  subst en
  have ek : (nI k).toInt = k := nI_toInt (by omega)
  rw [ek] at c d bad
  have inn : ∀ {w : Int32 → Prop}, w 1 → wp_X10_in (nI k) 0 255 w := fun hw => ok_inI (A := 0) (B := 255) rfl rfl (fun _ _ => hw) (fun q => by rw [ek] at q; omega)
  have wi : ∀ {x : Int32} {m : Nat} {K2 : Int32 → Prop}, m < 300 → K2 (inMb x.toInt m) → wp_X10_within (Int32.toInt64 x) (Int32.toInt64 (nI m)) K2 := fun {x m K2} hm h2 => by
    have := i_rng x
    exact ok_within (k := m) (by rw [l_ti, nI_toInt (by omega)]) (by omega) (by rw [l_ti]; omega) (by rw [l_ti]; omega) (by rw [l_ti]; exact h2)
  refine ok_holds (by omega) ?_
  by_cases q : inM a.toInt k
  · rw [inMb_t q]
    refine br_f (by decide) (ok_holds (by omega) ?_)
    by_cases q2 : inM t.toInt (szV V)
    · rw [inMb_t q2]
      refine bs_t (by decide) ?_
      have ht2 : 0 ≤ t.toInt ∧ t.toInt + (szV V : Nat) ≤ 4096 := by unfold inM at q2; omega
      obtain ⟨j, hj⟩ : ∃ j : Nat, j = t.toInt.toNat := ⟨_, rfl⟩
      have et : t = nI j := by rw [hj]; exact i_nI ht2.1
      have hj4 : j + szV V ≤ 4096 := by omega
      have hx : k = 0 ∨ (a = nI a.toInt.toNat ∧ a.toInt.toNat + k ≤ 4096) := by
        unfold inM at q
        rcases q with q | q
        · exact Or.inl q
        · exact Or.inr ⟨i_nI q.1, by omega⟩
      refine ok_packed hB (by omega) hx (fun ar' u' => ?_)
      rw [et]
      refine ok_store hj4 (by omega) ?_
      rw [blk_congr (fun i hi => oct_oc8 hB hi)]
      rw [← et]
      refine inn (bs_t (by decide) (wi (by omega) ?_))
      rw [inMb_t q]
      refine br_f (by decide) (ok_pksz hV (wi (by omega) ?_))
      rw [inMb_t q2]
      refine bs_t (by decide) (ok_packs hV hB (by omega) hx (fun lt' lm' pk' hp => ?_))
      have hBB : Byt (blk f j (fun i => nI (oct V f a.toInt.toNat k i)) (szV V)) := hB.of_blk (fun i _ => ⟨_, oct_lt hB, rfl⟩)
      intro L hL
      have key : ∀ i, i ≤ szV V → L (nI i) (blk f j (fun i => nI (oct V f a.toInt.toNat k i)) i) := by
        refine for_up ?_ (fun i hi ih => ?_)
        · exact hL _ _ (ok_pksz hV (br_t (nI_le (Nat.le_refl _) (by omega)) (ok_pksz hV (h _ _ _ _ _ _ _ hBB))))
        · refine hL _ _ (ok_pksz hV (br_f (nI_ge hi (by omega)) ⟨vp_in_nI (by omega) (by decide), ?_⟩))
          rw [et, nI_add, nI_clamp (by omega), nI_clamp (by omega), nI_1, hp i hi]
          refine ⟨vp_in_nI (by omega) (by decide), ?_⟩
          have e := blk_s f j (fun i => nI (oct V f a.toInt.toNat k i)) i
          try dsimp only at e
          rw [← e] at ih
          exact ih
      have := key 0 (Nat.zero_le _)
      rw [blk_0, nI_0] at this
      exact this
    · rw [inMb_f q2]
      refine bs_f rfl (inn (bs_t (by decide) (wi (by omega) ?_)))
      rw [inMb_t q]
      refine br_f (by decide) (ok_pksz hV (wi (by omega) ?_))
      rw [inMb_f q2]
      exact bs_f rfl (h _ _ _ _ _ _ _ hB)
  · rw [inMb_f q]
    refine br_t rfl (inn (bs_t (by decide) (wi (by omega) ?_)))
    rw [inMb_f q]
    exact br_t rfl (h _ _ _ _ _ _ _ hB)
