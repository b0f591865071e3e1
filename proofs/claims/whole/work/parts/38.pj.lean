-- PURE 19: told, typed, tick
theorem sim_toldR {en op li co ca li' co' ca' ln ec sc a : Int32} {K : Int32 → Int32 → Prop} (hn : ¬ op = 0 → li = li' ∧ co = co' ∧ ca = ca') (h : ∀ r, K r r) : wp_X9_told en op li co ca ln ec sc a (fun r => wp_X10_told op li' co' ca' en ln ec sc a (fun r2 => K r r2)) := by
  refine br_c (fun c0 => ?_) (fun c0 => br_c (fun c1 => ?_) (fun c1 => br_c (fun c2 => ?_) (fun c2 => br_c (fun c3 => ?_) (fun c3 => br_c (fun c4 => ?_) (fun c4 => br_c (fun c5 => ?_) (fun c5 => br_c (fun c6 => ?_) (fun c6 => br_c (fun c7 => ?_) (fun c7 => ?_))))))))
  · exact br_c (fun q => br_t c0 (br_t q (h _))) (fun q => br_t c0 (br_f q (h _)))
  · exact br_c (fun q => br_f c0 (br_t c1 (br_t q (h _)))) (fun q => br_f c0 (br_t c1 (br_f q (by rw [(hn q).2.1]; exact h _))))
  · exact br_c (fun q => br_f c0 (br_f c1 (br_t c2 (br_t q (h _))))) (fun q => br_f c0 (br_f c1 (br_t c2 (br_f q (by rw [(hn q).1]; exact h _)))))
  · exact br_f c0 (br_f c1 (br_f c2 (br_t c3 (h _))))
  · exact br_f c0 (br_f c1 (br_f c2 (br_f c3 (br_t c4 (h _)))))
  · exact br_f c0 (br_f c1 (br_f c2 (br_f c3 (br_f c4 (br_t c5 (h _))))))
  · exact br_f c0 (br_f c1 (br_f c2 (br_f c3 (br_f c4 (br_f c5 (br_t c6 (h _)))))))
  · exact br_c (fun q => br_f c0 (br_f c1 (br_f c2 (br_f c3 (br_f c4 (br_f c5 (br_f c6 (br_t c7 (br_t q (h _)))))))))) (fun q => br_f c0 (br_f c1 (br_f c2 (br_f c3 (br_f c4 (br_f c5 (br_f c6 (br_t c7 (br_f q (by rw [(hn q).2.2]; exact h _))))))))))
  · exact br_f c0 (br_f c1 (br_f c2 (br_f c3 (br_f c4 (br_f c5 (br_f c6 (br_f c7 (h _))))))))
theorem sim_typedR {k : Nat} {op tx pa li cn sh tx' pa' li' cn' sh' a : Int32} {cd cd' : Nat → Int32} {K : Int32 → Int32 → Prop} (hR : RRd k op tx pa li cn sh cd tx' pa' li' cd' cn' sh') (h : ∀ r, K r r) : wp_X9_typed op cn cd a (fun r => wp_X10_typed op cd' cn' a (fun r2 => K r r2)) := by
  rcases hR.1 with e | e
  · exact bs_f e (bs_f e (h _))
  · obtain ⟨t, p, lim, n, e1, e2, h1, h2, e3, e4, h3, e5, e6, h4, h5, e7, e8, h6, h7, h8⟩ := hR.2 e
    rw [e7, e8]
    exact sim_typed (by omega) (fun i hi => (h7 i hi).1) h
theorem min32 (b D : Nat) : min (min b 32 + D) 32 = min (b + D) 32 := by
  rcases Nat.lt_or_ge b 32 with q | q
  · rw [Nat.min_eq_left (Nat.le_of_lt q)]
  · rw [Nat.min_eq_right q, Nat.min_eq_right (by omega), Nat.min_eq_right (by omega)]
theorem sim_tick {V k B : Nat} {f cd cd' : Nat → Int32} {en op tx pa li cn sh ca st ev an ad si tx' pa' li' cn' sh' ev' an' go' ca' ad' a : Int32} {K : Int32 → Int32 → (Nat → Int32) → Int32 → Int32 → Int32 → Int32 → Int32 → Int32 → Int32 → (Nat → Int32) → Int32 → Int32 → Int32 → Int32 → Int32 → Int32 → Prop} (hV : V < 9) (hB : Byt f) (hBB : B < 2 ^ 29) (hR : RRd k op tx pa li cn sh cd tx' pa' li' cd' cn' sh') (hC : op = 1 → RClk B ca ev an ad si ev' an' go' ca' ad')
    (h : ∀ r e2 g o x1 x2 x3 x4 x5 y1 y2 y3 y4, Byt g → RRd k o tx pa li x1 sh cd tx' pa' li' cd' y1 sh' → (o = 1 → RClk (B + 101000) x2 ev an x4 x5 ev' an' y2 y3 y4) → K r e2 g o x1 x2 x3 x4 x5 r g o y1 y2 y3 y4 e2) : wp_X9_tick (nI V) en f op tx cn cd ca st ev an ad si a (fun r e2 g o x1 x2 x3 x4 x5 => wp_X10_tick (nI V) f op tx' cd' cn' ev' an' go' ca' ad' en a (fun r2 g2 o2 y1 y2 y3 y4 e3 => K r e2 g o x1 x2 x3 x4 x5 r2 g2 o2 y1 y2 y3 y4 e3)) := by
  have z0 : (0 : Int32).toInt = 0 := rfl
  have z1 : (100000 : Int32).toInt = 100000 := rfl
  have hC2 : op = 1 → RClk (B + 101000) ca ev an ad si ev' an' go' ca' ad' := fun o => (hC o).mono (by omega)
  have hu := fun r => h r en f op cn ca st ad si cn' go' ca' ad' hB hR hC2
  have hu0 := h 0 en f op cn ca 0 ad si cn' go' ca' ad' hB hR hC2
  rcases hR.1 with e | e
  · exact bs_f e (bs_f e (hu _))
  · obtain ⟨t, p, lim, n, e1, e2, h1, h2, e3, e4, h3, e5, e6, h4, h5, e7, e8, h6, h7, h8⟩ := id (hR.2 e)
    obtain ⟨ee, c, k1, k2, k3, k4, k5, k6, k7⟩ := id (hC e)
    have ne : ¬ op = 0 := by rw [e]; decide
    have bad : (a.toInt < 0 ∨ 100000 < a.toInt) → wp_X10_tick (nI V) f op tx' cd' cn' ev' an' go' ca' ad' en a (fun r2 g2 o2 y1 y2 y3 y4 e3 => K (-2) en f op cn ca st ad si r2 g2 o2 y1 y2 y3 y4 e3) := fun w => bs_t ne (ok_inI (A := 0) (B := 100000) rfl rfl (fun _ _ => absurd w (by omega)) (fun _ => bs_f rfl (hu _)))
    refine bs_t ne (br_c (fun w => bad (Or.inl (by rw [i_lt] at w; exact w))) (fun w => br_c (fun w2 => ?_) (fun w2 => bad (Or.inr (by rw [i_le] at w2; clear h hu hu0 bad; omega)))))
    clear bad hu
    rw [i_lt] at w
    rw [i_le] at w2
    obtain ⟨T, eT⟩ : ∃ T : Nat, T = a.toInt.toNat := ⟨_, rfl⟩
    have ea : a = nI T := by rw [eT]; exact i_nI (by clear h hu0; omega)
    have hT : T ≤ 100000 := by clear h hu0; omega
    have inT : ∀ {K2 : Int32 → Prop}, K2 1 → wp_X10_in (nI T) 0 100000 K2 := fun {K2} hk => ok_inI (A := 0) (B := 100000) rfl rfl (fun _ _ => hk) (fun q => by rw [← ea] at q; clear h hu0; omega)
    rw [ea]
    rcases Nat.eq_zero_or_pos ee with q | q
    · rw [q] at k1 k2
      have mo : wp_X10_tick (nI V) f op tx' cd' cn' ev' an' go' ca' ad' en (nI T) (fun r2 g2 o2 y1 y2 y3 y4 e3 => K 0 en f op cn ca 0 ad si r2 g2 o2 y1 y2 y3 y4 e3) := bs_t ne (inT (bs_t (by decide) (fun L hL => hL _ _ _ _ _ _ _ _ _ (br_c (fun _ => hu0) (fun _ => br_f ne (br_t (by rw [k2]; decide) hu0))))))
      rw [k1]
      exact ok_pass0 (br_t rfl mo)
    · obtain ⟨k8, g, b, k9, k10, k11, k12, k13, k14⟩ := k7 q
      have hm := Nat.mod_lt g q
      have hD : (g % ee + T) / ee ≤ g % ee + T := Nat.div_le_self _ _
      have mo : ∀ {r e2 g2 o x1 x2 x3 x4 x5},
          ((cus an (min b 32) = 0 ∨ (g % ee + T) / ee < cus an (min b 32)) → K r e2 g2 o x1 x2 x3 x4 x5 (nI ((g % ee + T) / ee)) f 1 cn' (nI (g + T)) (nI (c + (g % ee + T) / ee)) (nI (b + (g % ee + T) / ee)) en) →
          (0 < cus an (min b 32) → cus an (min b 32) ≤ (g % ee + T) / ee → ∀ y4 y5 y6, K r e2 g2 o x1 x2 x3 x4 x5 (nI (cus an (min b 32))) (layF V f t 0 cd') 0 0 y4 y5 y6 0) →
          wp_X10_tick (nI V) f op tx' cd' cn' ev' an' go' ca' ad' en (nI T) (fun r2 g3 o2 y1 y2 y3 y4 e3 => K r e2 g2 o x1 x2 x3 x4 x5 r2 g3 o2 y1 y2 y3 y4 e3) := fun {r e2 g2 o x1 x2 x3 x4 x5} j1 j2 => by
        rw [e, k2, k10, k5, k12]
        rw [← k8]
        rw [show tx' = nI t from by assumption]
        exact ok_tickM hV h2 q k3 hT (by clear h hu0 j1 j2; omega) (by clear h hu0 j1 j2; omega) (by clear h hu0 j1 j2; omega) j1 j2
      rw [e1, k1, k4, k14, k9]
      refine ok_pass q k3 (by clear h hu0 mo; omega) hT (by clear h hu0 mo; omega) (fun v => br_t rfl (mo (fun _ => ?_) (fun v1 v2 => absurd v (by clear h hu0 mo; omega)))) (fun v1 v2 x4 x5 => br_f (by decide) (ok_endClk hV h2 (mo (fun v => absurd v (by clear h hu0 mo; omega)) (fun _ _ y4 y5 y6 => ?_))))
      · rw [← e]
        refine h _ _ _ _ _ _ _ _ _ _ _ _ _ hB hR (fun _ => ?_)
        refine ⟨ee, c + (g % ee + T) / ee, k1, k2, k3, rfl, rfl, by omega, fun _ => ⟨k8, g + T, b + (g % ee + T) / ee, ?_, rfl, by omega, rfl, by omega, ?_⟩⟩
        · rw [Nat.mod_add_mod]
        · rw [show min (min b 32 + (g % ee + T) / ee) 32 = min (b + (g % ee + T) / ee) 32 from min32 _ _]
      · rw [layF_congr (cd := cd') (cd' := cd) (fun i hi => absurd hi (Nat.not_lt_zero i))]
        exact h _ _ _ _ _ _ _ _ _ _ _ _ _ (layF_byt hB (by omega) (fun i hi => absurd hi (Nat.not_lt_zero i))) ⟨Or.inl rfl, fun w => absurd w (by decide)⟩ (fun w => absurd w (by decide))
