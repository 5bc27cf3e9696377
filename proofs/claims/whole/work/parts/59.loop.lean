theorem and63 (x : Int32) : ∃ q, q < 64 ∧ x &&& nI 63 = nI q := by
  obtain ⟨q, hq⟩ : ∃ q, q = (x &&& nI 63).toBitVec.toNat := ⟨_, rfl⟩
  refine ⟨q, ?_, ?_⟩
  · rw [hq, Int32.toBitVec_and, BitVec.toNat_and]
    have h : x.toBitVec.toNat &&& (nI 63).toBitVec.toNat ≤ (nI 63).toBitVec.toNat := Nat.and_le_right
    have h2 : (nI 63).toBitVec.toNat = 63 := by decide
    omega
  · rw [hq]
    exact Int32.toBitVec_inj.mp (by show (x &&& nI 63).toBitVec = BitVec.ofNat 32 (x &&& nI 63).toBitVec.toNat; simp)
theorem lp_no {i L : Nat} (h : i + 3 ≤ L) (hL : L ≤ 1536) : ¬ nI L - nI 3 < nI i := by
  rw [pk_sub (by omega)]
  exact nI_nlt (by omega) (by omega)
theorem lp_yes {i L : Nat} (h : L < i + 3) (hi : i ≤ 2000) : nI L - nI 3 < nI i := by
  by_cases h3 : 3 ≤ L
  · rw [pk_sub (by omega)]
    exact nI_lt (by omega) (by omega)
  · have hz : (0 : Int32) ≤ nI i := Int32.not_lt.mp (nI_pos (by omega))
    have hneg : nI L - nI 3 < 0 := by
      match L, h3 with
      | 0, _ => decide
      | 1, _ => decide
      | 2, _ => decide
      | k + 3, h => exact absurd (by omega) h
    exact Int32.lt_of_lt_of_le hneg hz

set_option maxRecDepth 100000 in
set_option maxHeartbeats 8000000 in
theorem lw_loop {E : Ev} {X : Cx0} {nm : String} {tb : List (Nat × Nat × Nat × Nat)} {Q : State → Prop} {b : Nat → Nat} {bs L c0 d0 : Nat} {xs : Nat → Int32} (hX : Cx E X (mLw nm tb)) (hsc : Sc E X bs L xs) (hL : L ≤ 1536) (hb : Lay E 162 b) (ke : ∀ M i nc ns, Gq E X (mLw nm tb) Q 2992 [.ref bs, .ref (b 0), .ref (b 151), .ref (b 160), .ref (b 161), .int (nI i), hole, hole, hole] [] M nc ns) : ∀ (n i B : Nat) (K : Kt) (M : Hp), L < i + 3 * n + 3 → i ≤ L + 3 → B + 60000 * n + 200000 < 2 ^ 26 → Wd E b K M → Sim K B → Gq E X (mLw nm tb) Q 28 [.ref bs, .ref (b 0), .ref (b 151), .ref (b 160), .ref (b 161), .int (nI i), hole, hole, hole] [] M (c0 + 23 * n) (d0 + 3266 * n) := by
  intro n
  induction n with
  | zero =>
    intro i B K M h1 h2 h3 hW hS
    refine gq_iload hX dL_law_28 rfl rfl ?_
    refine gq_aload_n hX dL_law_30 rfl rfl rfl ?_
    refine gq_slen hX hsc dL_law_31 rfl ?_
    refine gq_iconst (v := nI 3) hX dL_law_32 rfl (by decide) ?_
    refine gq_isub hX dL_law_33 rfl ?_
    refine gq_icmp_gtT (tgt := 2992) hX dL_law_34 rfl (lp_yes (by omega) (by omega)) ?_
    exact ke M i _ _
  | succ n ih =>
    intro i B K M h1 h2 h3 hW hS
    refine gq_iload hX dL_law_28 rfl rfl ?_
    refine gq_aload_n hX dL_law_30 rfl rfl rfl ?_
    refine gq_slen hX hsc dL_law_31 rfl ?_
    refine gq_iconst (v := nI 3) hX dL_law_32 rfl (by decide) ?_
    refine gq_isub hX dL_law_33 rfl ?_
    by_cases hlt : L < i + 3
    · refine gq_icmp_gtT (tgt := 2992) hX dL_law_34 rfl (lp_yes hlt (by omega)) ?_
      exact ke M i _ _
    refine gq_icmp_gtF (tgt := 2992) hX dL_law_34 rfl rfl (lp_no (by omega) hL) ?_
    refine gq_aload_n hX dL_law_37 rfl rfl rfl ?_
    refine gq_iload hX dL_law_38 rfl rfl ?_
    refine gq_sld hX hsc dL_law_40 rfl (vp_in_nI (by omega) (by omega)) rfl ?_
    refine gq_bipush (v := nI 63) hX dL_law_41 rfl (by decide) ?_
    refine gq_iand hX dL_law_43 rfl ?_
    obtain ⟨q, hq, he⟩ := and63 (xs (nI i).toNatClampNeg)
    rw [he]
    have kk2 : ∀ K2 M2, Wd E b K2 M2 → Sim K2 (B + 60000) → Gq E X (mLw nm tb) Q 2986 [.ref bs, .ref (b 0), .ref (b 151), .ref (b 160), .ref (b 161), .int (nI i), hole, hole, hole] [] M2 (c0 + 23 * n) (d0 + 3266 * n) := by
      intro K2 M2 hW2 hS2
      refine gq_iinc hX dL_law_2986 rfl rfl (show nI i + Int32.ofInt 3 = nI (i + 3) from nI_add i 3) (Nat.le_of_ble_eq_true rfl) rfl ?_
      refine gq_goto (tgt := 28) hX dL_law_2989 rfl ?_
      exact ih (i + 3) (B + 60000) K2 M2 (by omega) (by omega) (by omega) hW2 hS2
    rw [show c0 + 23 * (n + 1) = c0 + 23 * n + 23 by omega, show d0 + 3266 * (n + 1) = d0 + 3266 * n + 3266 by omega]
    match q, hq with
    | 0, _ =>
      refine gq_tableIn (tgt := 280) (off := 236) hX dL_law_44 (by decide) (by decide) (by decide +kernel) rfl ?_
      exact lk_0 hX hsc (by omega) hL hb hW hS (by omega) kk2
    | 1, _ =>
      refine gq_tableIn (tgt := 336) (off := 292) hX dL_law_44 (by decide) (by decide) (by decide +kernel) rfl ?_
      exact lk_1 hX hsc (by omega) hL hb hW hS (by omega) kk2
    | 2, _ =>
      refine gq_tableIn (tgt := 392) (off := 348) hX dL_law_44 (by decide) (by decide) (by decide +kernel) rfl ?_
      exact lk_2 hX hsc (by omega) hL hb hW hS (by omega) kk2
    | 3, _ =>
      refine gq_tableIn (tgt := 460) (off := 416) hX dL_law_44 (by decide) (by decide) (by decide +kernel) rfl ?_
      exact lk_3 hX hsc (by omega) hL hb hW hS (by omega) kk2
    | 4, _ =>
      refine gq_tableIn (tgt := 516) (off := 472) hX dL_law_44 (by decide) (by decide) (by decide +kernel) rfl ?_
      exact lk_4 hX hsc (by omega) hL hb hW hS (by omega) kk2
    | 5, _ =>
      refine gq_tableIn (tgt := 529) (off := 485) hX dL_law_44 (by decide) (by decide) (by decide +kernel) rfl ?_
      exact lk_5 hX hsc (by omega) hL hb hW hS (by omega) kk2
    | 6, _ =>
      refine gq_tableIn (tgt := 585) (off := 541) hX dL_law_44 (by decide) (by decide) (by decide +kernel) rfl ?_
      exact lk_6 hX hsc (by omega) hL hb hW hS (by omega) kk2
    | 7, _ =>
      refine gq_tableIn (tgt := 641) (off := 597) hX dL_law_44 (by decide) (by decide) (by decide +kernel) rfl ?_
      exact lk_7 hX hsc (by omega) hL hb hW hS (by omega) kk2
    | 8, _ =>
      refine gq_tableIn (tgt := 704) (off := 660) hX dL_law_44 (by decide) (by decide) (by decide +kernel) rfl ?_
      exact lk_8 hX hsc (by omega) hL hb hW hS (by omega) kk2
    | 9, _ =>
      refine gq_tableIn (tgt := 760) (off := 716) hX dL_law_44 (by decide) (by decide) (by decide +kernel) rfl ?_
      exact lk_9 hX hsc (by omega) hL hb hW hS (by omega) kk2
    | 10, _ =>
      refine gq_tableIn (tgt := 816) (off := 772) hX dL_law_44 (by decide) (by decide) (by decide +kernel) rfl ?_
      exact lk_10 hX hsc (by omega) hL hb hW hS (by omega) kk2
    | 11, _ =>
      refine gq_tableIn (tgt := 829) (off := 785) hX dL_law_44 (by decide) (by decide) (by decide +kernel) rfl ?_
      exact lk_11 hX hsc (by omega) hL hb hW hS (by omega) kk2
    | 12, _ =>
      refine gq_tableIn (tgt := 885) (off := 841) hX dL_law_44 (by decide) (by decide) (by decide +kernel) rfl ?_
      exact lk_12 hX hsc (by omega) hL hb hW hS (by omega) kk2
    | 13, _ =>
      refine gq_tableIn (tgt := 948) (off := 904) hX dL_law_44 (by decide) (by decide) (by decide +kernel) rfl ?_
      exact lk_13 hX hsc (by omega) hL hb hW hS (by omega) kk2
    | 14, _ =>
      refine gq_tableIn (tgt := 1004) (off := 960) hX dL_law_44 (by decide) (by decide) (by decide +kernel) rfl ?_
      exact lk_14 hX hsc (by omega) hL hb hW hS (by omega) kk2
    | 15, _ =>
      refine gq_tableIn (tgt := 1048) (off := 1004) hX dL_law_44 (by decide) (by decide) (by decide +kernel) rfl ?_
      exact lk_15 hX hsc (by omega) hL hb hW hS (by omega) kk2
    | 16, _ =>
      refine gq_tableIn (tgt := 1116) (off := 1072) hX dL_law_44 (by decide) (by decide) (by decide +kernel) rfl ?_
      exact lk_16 hX hsc (by omega) hL hb hW hS (by omega) kk2
    | 17, _ =>
      refine gq_tableIn (tgt := 1184) (off := 1140) hX dL_law_44 (by decide) (by decide) (by decide +kernel) rfl ?_
      exact lk_17 hX hsc (by omega) hL hb hW hS (by omega) kk2
    | 18, _ =>
      refine gq_tableIn (tgt := 1252) (off := 1208) hX dL_law_44 (by decide) (by decide) (by decide +kernel) rfl ?_
      exact lk_18 hX hsc (by omega) hL hb hW hS (by omega) kk2
    | 19, _ =>
      refine gq_tableIn (tgt := 1320) (off := 1276) hX dL_law_44 (by decide) (by decide) (by decide +kernel) rfl ?_
      exact lk_19 hX hsc (by omega) hL hb hW hS (by omega) kk2
    | 20, _ =>
      refine gq_tableIn (tgt := 1376) (off := 1332) hX dL_law_44 (by decide) (by decide) (by decide +kernel) rfl ?_
      exact lk_20 hX hsc (by omega) hL hb hW hS (by omega) kk2
    | 21, _ =>
      refine gq_tableIn (tgt := 1432) (off := 1388) hX dL_law_44 (by decide) (by decide) (by decide +kernel) rfl ?_
      exact lk_21 hX hsc (by omega) hL hb hW hS (by omega) kk2
    | 22, _ =>
      refine gq_tableIn (tgt := 1495) (off := 1451) hX dL_law_44 (by decide) (by decide) (by decide +kernel) rfl ?_
      exact lk_22 hX hsc (by omega) hL hb hW hS (by omega) kk2
    | 23, _ =>
      refine gq_tableIn (tgt := 1508) (off := 1464) hX dL_law_44 (by decide) (by decide) (by decide +kernel) rfl ?_
      exact lk_23 hX hsc (by omega) hL hb hW hS (by omega) kk2
    | 24, _ =>
      refine gq_tableIn (tgt := 1564) (off := 1520) hX dL_law_44 (by decide) (by decide) (by decide +kernel) rfl ?_
      exact lk_24 hX hsc (by omega) hL hb hW hS (by omega) kk2
    | 25, _ =>
      refine gq_tableIn (tgt := 1620) (off := 1576) hX dL_law_44 (by decide) (by decide) (by decide +kernel) rfl ?_
      exact lk_25 hX hsc (by omega) hL hb hW hS (by omega) kk2
    | 26, _ =>
      refine gq_tableIn (tgt := 1683) (off := 1639) hX dL_law_44 (by decide) (by decide) (by decide +kernel) rfl ?_
      exact lk_26 hX hsc (by omega) hL hb hW hS (by omega) kk2
    | 27, _ =>
      refine gq_tableIn (tgt := 1739) (off := 1695) hX dL_law_44 (by decide) (by decide) (by decide +kernel) rfl ?_
      exact lk_27 hX hsc (by omega) hL hb hW hS (by omega) kk2
    | 28, _ =>
      refine gq_tableIn (tgt := 1802) (off := 1758) hX dL_law_44 (by decide) (by decide) (by decide +kernel) rfl ?_
      exact lk_28 hX hsc (by omega) hL hb hW hS (by omega) kk2
    | 29, _ =>
      refine gq_tableIn (tgt := 1858) (off := 1814) hX dL_law_44 (by decide) (by decide) (by decide +kernel) rfl ?_
      exact lk_29 hX hsc (by omega) hL hb hW hS (by omega) kk2
    | 30, _ =>
      refine gq_tableIn (tgt := 1914) (off := 1870) hX dL_law_44 (by decide) (by decide) (by decide +kernel) rfl ?_
      exact lk_30 hX hsc (by omega) hL hb hW hS (by omega) kk2
    | 31, _ =>
      refine gq_tableIn (tgt := 1970) (off := 1926) hX dL_law_44 (by decide) (by decide) (by decide +kernel) rfl ?_
      exact lk_31 hX hsc (by omega) hL hb hW hS (by omega) kk2
    | 32, _ =>
      refine gq_tableIn (tgt := 2026) (off := 1982) hX dL_law_44 (by decide) (by decide) (by decide +kernel) rfl ?_
      exact lk_32 hX hsc (by omega) hL hb hW hS (by omega) kk2
    | 33, _ =>
      refine gq_tableIn (tgt := 2082) (off := 2038) hX dL_law_44 (by decide) (by decide) (by decide +kernel) rfl ?_
      exact lk_33 hX hsc (by omega) hL hb hW hS (by omega) kk2
    | 34, _ =>
      refine gq_tableIn (tgt := 2150) (off := 2106) hX dL_law_44 (by decide) (by decide) (by decide +kernel) rfl ?_
      exact lk_34 hX hsc (by omega) hL hb hW hS (by omega) kk2
    | 35, _ =>
      refine gq_tableIn (tgt := 2218) (off := 2174) hX dL_law_44 (by decide) (by decide) (by decide +kernel) rfl ?_
      exact lk_35 hX hsc (by omega) hL hb hW hS (by omega) kk2
    | 36, _ =>
      refine gq_tableIn (tgt := 2231) (off := 2187) hX dL_law_44 (by decide) (by decide) (by decide +kernel) rfl ?_
      exact lk_36 hX hsc (by omega) hL hb hW hS (by omega) kk2
    | 37, _ =>
      refine gq_tableIn (tgt := 2287) (off := 2243) hX dL_law_44 (by decide) (by decide) (by decide +kernel) rfl ?_
      exact lk_37 hX hsc (by omega) hL hb hW hS (by omega) kk2
    | 38, _ =>
      refine gq_tableIn (tgt := 2300) (off := 2256) hX dL_law_44 (by decide) (by decide) (by decide +kernel) rfl ?_
      exact lk_38 hX hsc (by omega) hL hb hW hS (by omega) kk2
    | 39, _ =>
      refine gq_tableIn (tgt := 2313) (off := 2269) hX dL_law_44 (by decide) (by decide) (by decide +kernel) rfl ?_
      exact lk_39 hX hsc (by omega) hL hb hW hS (by omega) kk2
    | 40, _ =>
      refine gq_tableIn (tgt := 2326) (off := 2282) hX dL_law_44 (by decide) (by decide) (by decide +kernel) rfl ?_
      exact lk_40 hX hsc (by omega) hL hb hW hS (by omega) kk2
    | 41, _ =>
      refine gq_tableIn (tgt := 2339) (off := 2295) hX dL_law_44 (by decide) (by decide) (by decide +kernel) rfl ?_
      exact lk_41 hX hsc (by omega) hL hb hW hS (by omega) kk2
    | 42, _ =>
      refine gq_tableIn (tgt := 2397) (off := 2353) hX dL_law_44 (by decide) (by decide) (by decide +kernel) rfl ?_
      exact lk_42 hX hsc (by omega) hL hb hW hS (by omega) kk2
    | 43, _ =>
      refine gq_tableIn (tgt := 2441) (off := 2397) hX dL_law_44 (by decide) (by decide) (by decide +kernel) rfl ?_
      exact lk_43 hX hsc (by omega) hL hb hW hS (by omega) kk2
    | 44, _ =>
      refine gq_tableIn (tgt := 2485) (off := 2441) hX dL_law_44 (by decide) (by decide) (by decide +kernel) rfl ?_
      exact lk_44 hX hsc (by omega) hL hb hW hS (by omega) kk2
    | 45, _ =>
      refine gq_tableIn (tgt := 2529) (off := 2485) hX dL_law_44 (by decide) (by decide) (by decide +kernel) rfl ?_
      exact lk_45 hX hsc (by omega) hL hb hW hS (by omega) kk2
    | 46, _ =>
      refine gq_tableIn (tgt := 2573) (off := 2529) hX dL_law_44 (by decide) (by decide) (by decide +kernel) rfl ?_
      exact lk_46 hX hsc (by omega) hL hb hW hS (by omega) kk2
    | 47, _ =>
      refine gq_tableIn (tgt := 2629) (off := 2585) hX dL_law_44 (by decide) (by decide) (by decide +kernel) rfl ?_
      exact lk_47 hX hsc (by omega) hL hb hW hS (by omega) kk2
    | 48, _ =>
      refine gq_tableIn (tgt := 2685) (off := 2641) hX dL_law_44 (by decide) (by decide) (by decide +kernel) rfl ?_
      exact lk_48 hX hsc (by omega) hL hb hW hS (by omega) kk2
    | 49, _ =>
      refine gq_tableIn (tgt := 2741) (off := 2697) hX dL_law_44 (by decide) (by decide) (by decide +kernel) rfl ?_
      exact lk_49 hX hsc (by omega) hL hb hW hS (by omega) kk2
    | 50, _ =>
      refine gq_tableIn (tgt := 2806) (off := 2762) hX dL_law_44 (by decide) (by decide) (by decide +kernel) rfl ?_
      exact lk_50 hX hsc (by omega) hL hb hW hS (by omega) kk2
    | 51, _ =>
      refine gq_tableIn (tgt := 2872) (off := 2828) hX dL_law_44 (by decide) (by decide) (by decide +kernel) rfl ?_
      exact lk_51 hX hsc (by omega) hL hb hW hS (by omega) kk2
    | 52, _ =>
      refine gq_tableIn (tgt := 2885) (off := 2841) hX dL_law_44 (by decide) (by decide) (by decide +kernel) rfl ?_
      exact lk_52 hX hsc (by omega) hL hb hW hS (by omega) kk2
    | 53, _ =>
      refine gq_tableIn (tgt := 2929) (off := 2885) hX dL_law_44 (by decide) (by decide) (by decide +kernel) rfl ?_
      exact lk_53 hX hsc (by omega) hL hb hW hS (by omega) kk2
    | 54, _ =>
      refine gq_tableIn (tgt := 2942) (off := 2898) hX dL_law_44 (by decide) (by decide) (by decide +kernel) rfl ?_
      exact lk_54 hX hsc (by omega) hL hb hW hS (by omega) kk2
    | 55, _ =>
      refine gq_tableOut (tgt := 2986) hX dL_law_44 (by decide) rfl ?_
      exact gq_bud (by omega) (by omega) (kk2 K M hW (by obtain ⟨a1, a2, a3, h1, h2⟩ := hS; exact ⟨a1, a2, a3, h1.mono (by omega), h2.mono (by omega)⟩))
    | 56, _ =>
      refine gq_tableOut (tgt := 2986) hX dL_law_44 (by decide) rfl ?_
      exact gq_bud (by omega) (by omega) (kk2 K M hW (by obtain ⟨a1, a2, a3, h1, h2⟩ := hS; exact ⟨a1, a2, a3, h1.mono (by omega), h2.mono (by omega)⟩))
    | 57, _ =>
      refine gq_tableOut (tgt := 2986) hX dL_law_44 (by decide) rfl ?_
      exact gq_bud (by omega) (by omega) (kk2 K M hW (by obtain ⟨a1, a2, a3, h1, h2⟩ := hS; exact ⟨a1, a2, a3, h1.mono (by omega), h2.mono (by omega)⟩))
    | 58, _ =>
      refine gq_tableOut (tgt := 2986) hX dL_law_44 (by decide) rfl ?_
      exact gq_bud (by omega) (by omega) (kk2 K M hW (by obtain ⟨a1, a2, a3, h1, h2⟩ := hS; exact ⟨a1, a2, a3, h1.mono (by omega), h2.mono (by omega)⟩))
    | 59, _ =>
      refine gq_tableOut (tgt := 2986) hX dL_law_44 (by decide) rfl ?_
      exact gq_bud (by omega) (by omega) (kk2 K M hW (by obtain ⟨a1, a2, a3, h1, h2⟩ := hS; exact ⟨a1, a2, a3, h1.mono (by omega), h2.mono (by omega)⟩))
    | 60, _ =>
      refine gq_tableOut (tgt := 2986) hX dL_law_44 (by decide) rfl ?_
      exact gq_bud (by omega) (by omega) (kk2 K M hW (by obtain ⟨a1, a2, a3, h1, h2⟩ := hS; exact ⟨a1, a2, a3, h1.mono (by omega), h2.mono (by omega)⟩))
    | 61, _ =>
      refine gq_tableOut (tgt := 2986) hX dL_law_44 (by decide) rfl ?_
      exact gq_bud (by omega) (by omega) (kk2 K M hW (by obtain ⟨a1, a2, a3, h1, h2⟩ := hS; exact ⟨a1, a2, a3, h1.mono (by omega), h2.mono (by omega)⟩))
    | 62, _ =>
      refine gq_tableOut (tgt := 2986) hX dL_law_44 (by decide) rfl ?_
      exact gq_bud (by omega) (by omega) (kk2 K M hW (by obtain ⟨a1, a2, a3, h1, h2⟩ := hS; exact ⟨a1, a2, a3, h1.mono (by omega), h2.mono (by omega)⟩))
    | 63, _ =>
      refine gq_tableOut (tgt := 2986) hX dL_law_44 (by decide) rfl ?_
      exact gq_bud (by omega) (by omega) (kk2 K M hW (by obtain ⟨a1, a2, a3, h1, h2⟩ := hS; exact ⟨a1, a2, a3, h1.mono (by omega), h2.mono (by omega)⟩))
    | q + 64, h => exact absurd h (by omega)

