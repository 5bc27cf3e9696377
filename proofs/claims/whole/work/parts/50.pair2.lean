section R2
variable {K : Kt} {nc nt no B : Nat}
theorem Rest.aft (h : Rest K B) (hc : Cur K nc nt no B) (q : Nat) (lo : Nat → Int64) (v : Int32) (row w : Nat → Int32) : Rest (kMd (kLo (aftK K nc nt no q) lo) (setA (setS K.2.2.2.2.1 0 v) 5 row) w) B := by
  have hn1 : Nar (pasS (copS (K.2.1 1) (K.2.1 0) nc nt no) nt nc q).1 := pasS_nar (copS_nar (h.1 1 (by decide)) hc.1.2.1)
  have e : aftK K nc nt no q = kSs K 1 (pasS (copS (K.2.1 1) (K.2.1 0) nc nt no) nt nc q).1 := by unfold aftK; rw [kSs_2]
  rw [e]
  obtain ⟨h1, ⟨nx, kp, f, g1, g2, g3⟩, h3, h4, h5, h6⟩ := h.spare hn1
  exact ⟨h1, ⟨nx, kp, f, g1, g2, g3⟩, h3, h4, h5, h6⟩
theorem Rest.row (h : Rest K B) (lo : Nat → Int64) (v : Int32) (row w : Nat → Int32) : Rest (kMd (kLo K lo) (setA (setS K.2.2.2.2.1 0 v) 5 row) w) B := by
  obtain ⟨h1, ⟨nx, kp, f, g1, g2, g3⟩, h3, h4, h5, h6⟩ := h
  exact ⟨h1, ⟨nx, kp, f, g1, g2, g3⟩, h3, h4, h5, h6⟩
theorem Rest.line (h : Rest K B) {l : Ln} (hl : l.2 ≤ 60) {T1 : St} {v : Int32} (hq : LnQ (setS K.2.2.2.2.1 0 v) T1 l) (lo : Nat → Int64) (w : Nat → Int32) : Rest (kMd (kLo (kTx K 1 l) lo) T1 w) B := by
  obtain ⟨h1, ⟨nx, kp, f, g1, ⟨r1, r2, r3, r4⟩, g3⟩, h3, ⟨t1, t2, t3, t4⟩, h5, ⟨e1, e2, e3, e4⟩⟩ := h
  obtain ⟨q1, q2, q3, q4⟩ := hq
  have a1 : T1.1 1 = K.2.2.2.2.1.1 1 := q1 1 (by decide)
  have a2 : T1.1 2 = K.2.2.2.2.1.1 2 := q1 2 (by decide)
  have a3 : T1.1 3 = K.2.2.2.2.1.1 3 := q1 3 (by decide)
  have a5 : T1.1 5 = K.2.2.2.2.1.1 5 := q1 5 (by decide)
  have a7 : T1.1 7 = K.2.2.2.2.1.1 7 := q1 7 (by decide)
  have a8 : T1.1 8 = K.2.2.2.2.1.1 8 := q1 8 (by decide)
  have a9 : T1.1 9 = K.2.2.2.2.1.1 9 := q1 9 (by decide)
  have b2 : T1.2 2 = K.2.2.2.2.1.2 2 := q2 2 (by decide)
  have b3 : T1.2 3 = K.2.2.2.2.1.2 3 := q2 3 (by decide)
  have b7 : T1.2 7 = K.2.2.2.2.1.2 7 := q2 7 (by decide)
  refine ⟨h1, ⟨nx, kp, f, g1, ⟨a2.trans r1, a1.trans r2, r3, r4⟩, ?_⟩, ⟨?_, ?_⟩, ⟨a5.trans t1, t2, ?_, t4⟩, ⟨⟨q3, q4⟩, hl⟩, ⟨a7.trans e1, a8.trans e2, e3, ?_⟩⟩
  · show RgS nx kp f K.2.1 (T1.2 2) B
    rw [b2]
    exact g3
  · exact h3.1.trans a3.symm
  · show ¬ K.1 0 = 0 → Cp (K.2.1 2) (T1.2 3) B
    rw [b3]
    exact h3.2
  · show ∀ i, i < (K.2.2.2.1 0).2 → T1.2 7 i = nI ((K.2.2.2.1 0).1 i)
    rw [b7]
    exact t3
  · show (K.1 2 = -1 ∧ K.1 3 = -1) ∨ ∃ e v, e < 100 ∧ K.1 2 = nI e ∧ v < 10 ∧ K.1 3 = nI v ∧ T1.1 9 = nI v
    rw [a9]
    exact e4
theorem sb_cat1 {t : Nat → Nat} {n c i : Nat} : sb_cat t n (fun _ => c) i = if i < n then t i else c := rfl
theorem Rest.app (h : Rest K B) {c : Nat} (hc : c < 128) (hl : (K.2.2.2.1 0).2 < 60) (lo : Nat → Int64) (v : Int32) (w : Nat → Int32) : Rest (kMd (kLo (kTx K 0 (lnA (K.2.2.2.1 0) c)) lo) (setS (setA (setS K.2.2.2.2.1 0 v) 7 (upd (K.2.2.2.2.1.2 7) (K.2.2.2.1 0).2 (nI c))) 5 (nI ((K.2.2.2.1 0).2 + 1))) w) B := by
  obtain ⟨h1, ⟨nx, kp, f, g1, g2, g3⟩, h3, ⟨t1, t2, t3, t4⟩, h5, h6⟩ := h
  refine ⟨h1, ⟨nx, kp, f, g1, g2, g3⟩, h3, ⟨rfl, ?_, ?_, ?_⟩, h5, h6⟩
  · show (K.2.2.2.1 0).2 + 1 ≤ 60
    omega
  · show ∀ i, i < (K.2.2.2.1 0).2 + 1 → upd (K.2.2.2.2.1.2 7) (K.2.2.2.1 0).2 (nI c) i = nI (sb_cat (K.2.2.2.1 0).1 (K.2.2.2.1 0).2 (fun _ => c) i)
    intro i hi
    rw [sb_cat1]
    by_cases e : i < (K.2.2.2.1 0).2
    · rw [if_pos e, upd_n _ (by omega)]
      exact t3 i e
    · rw [if_neg e, show i = (K.2.2.2.1 0).2 by omega, upd_s]
  · show ∀ i, i < (K.2.2.2.1 0).2 + 1 → sb_cat (K.2.2.2.1 0).1 (K.2.2.2.1 0).2 (fun _ => c) i < 128
    intro i hi
    rw [sb_cat1]
    split
    · exact t4 i (by assumption)
    · exact hc
end R2
theorem desM_n {S : St} {k i o a : Nat} (hi : i < 100000000) (ho : o < 10) (ha : a < 10) (hs : S.2 11 k = -1 ∨ ∃ j, j < 10 ∧ S.2 11 k = nI j) : (desM S k i o a).2 ≤ 60 := by
  have h0 : (desM0 S k i o a).2 ≤ 13 := by
    have := dg_le8 hi
    show 0 + 1 + sb_dg i + 1 + sb_dg o + 1 + sb_dg a ≤ 13
    rw [dg1 ho, dg1 ha]
    omega
  have h1 : (desM1 S k i o a).2 ≤ 20 := by
    unfold desM1
    split
    · omega
    · rename_i hne
      obtain ⟨j, hj, e⟩ := hs.resolve_left hne
      show (desM0 S k i o a).2 + 1 + sb_dg (S.2 11 k).toNatClampNeg ≤ 20
      rw [e, nI_clamp (by omega), dg1 hj]
      omega
  unfold desM
  split
  · omega
  · show (desM1 S k i o a).2 + 1 ≤ 60
    omega

set_option maxRecDepth 100000 in
set_option maxHeartbeats 4000000 in
theorem pr_members {E : Ev} {b : Nat → Nat} {K : Kt} {M : Hp} {B : Nat} (hb : Lay E 162 b) (hW : Wd E b K M) (hS : Sim K B) (hB : B + 200000 < 2 ^ 26) (c : Int32) : PairI E b g0 mL_members mX5_members [.ref (b 0), .int c, .ref (b 160)] [.ref (b 151), .int c] M B := by
  obtain ⟨nc, nt, no, hcur, hR⟩ := id hS
  obtain ⟨hok, hw⟩ := id hcur
  obtain ⟨hwf, hn, -, -, hro, -, hse, -, hch⟩ := id hok
  obtain ⟨-, hnc6, -, hnt8, -, hno8⟩ := id hwf
  obtain ⟨-, ⟨nx, kp, fq, hrc, hrh, hrs⟩, -⟩ := id hR
  have hbM := hb.bM
  by_cases hF : hasI nc c = 0
  · exact PairI.bad hb hS (by decide) (by decide) (wl_members_1 hb hW (by decide) (by decide) ((cr_members_1 hb hW hwf c hF).imp (fun _ _ z => z) (PXe.th hW))) hw (fun M1 => mr_members_bad hbM hwf c hF)
  · obtain ⟨j, hj, rfl⟩ := hasI_ix (by omega) hF
    exact PairI.rd hb hS (wl_members_ok hb hW (by decide) (by decide) ((cr_members_ok hb hW hwf hj).imp (eqR.rs hW))) hw (fun M1 => mr_members_ok hbM hwf hj)

set_option maxRecDepth 100000 in
set_option maxHeartbeats 4000000 in
theorem pr_arrears {E : Ev} {b : Nat → Nat} {K : Kt} {M : Hp} {B : Nat} (hb : Lay E 162 b) (hW : Wd E b K M) (hS : Sim K B) (hB : B + 200000 < 2 ^ 26) (c : Int32) : PairI E b g0 mL_arrears mX5_arrears [.ref (b 0), .int c, .ref (b 160)] [.ref (b 151), .int c] M B := by
  obtain ⟨nc, nt, no, hcur, hR⟩ := id hS
  obtain ⟨hok, hw⟩ := id hcur
  obtain ⟨hwf, hn, -, -, hro, -, hse, -, hch⟩ := id hok
  obtain ⟨-, hnc6, -, hnt8, -, hno8⟩ := id hwf
  obtain ⟨-, ⟨nx, kp, fq, hrc, hrh, hrs⟩, -⟩ := id hR
  have hbM := hb.bM
  by_cases hF : hasI nc c = 0
  · exact PairI.bad hb hS (by decide) (by decide) (wl_arrears_1 hb hW (by decide) (by decide) ((cr_arrears_1 hb hW hwf c hF).imp (fun _ _ z => z) (PXe.th hW))) hw (fun M1 => mr_arrears_bad hbM hwf c hF)
  · obtain ⟨j, hj, rfl⟩ := hasI_ix (by omega) hF
    exact PairI.rd hb hS (wl_arrears_ok hb hW (by decide) (by decide) ((cr_arrears_ok hb hW hwf hj).imp (eqR.rs hW))) hw (fun M1 => mr_arrears_ok hbM hwf hj)

set_option maxRecDepth 100000 in
set_option maxHeartbeats 4000000 in
theorem pr_isFlying {E : Ev} {b : Nat → Nat} {K : Kt} {M : Hp} {B : Nat} (hb : Lay E 162 b) (hW : Wd E b K M) (hS : Sim K B) (hB : B + 200000 < 2 ^ 26) (c : Int32) : PairI E b g1 mL_isFlying mX5_isFlying [.ref (b 0), .int c, .ref (b 160)] [.ref (b 151), .int c] M B := by
  obtain ⟨nc, nt, no, hcur, hR⟩ := id hS
  obtain ⟨hok, hw⟩ := id hcur
  obtain ⟨hwf, hn, -, -, hro, -, hse, -, hch⟩ := id hok
  obtain ⟨-, hnc6, -, hnt8, -, hno8⟩ := id hwf
  obtain ⟨-, ⟨nx, kp, fq, hrc, hrh, hrs⟩, -⟩ := id hR
  have hbM := hb.bM
  by_cases hF : hasI nc c = 0
  · exact PairI.bad hb hS (by decide) (by decide) (wl_isFlying_1 hb hW (by decide) (by decide) ((cr_isFlying_1 hb hW hwf c hF).imp (fun _ _ z => z) (PXe.th hW))) hw (fun M1 => mr_isFlying_bad hbM hwf c hF)
  · obtain ⟨j, hj, rfl⟩ := hasI_ix (by omega) hF
    exact PairI.rd hb hS (wl_isFlying_ok hb hW (by decide) (by decide) ((cr_isFlying_ok hb hW hwf hn hj).imp (eqR.rs hW))) hw (fun M1 => mr_isFlying_ok hbM hwf hn hj)

set_option maxRecDepth 100000 in
set_option maxHeartbeats 4000000 in
theorem pr_tailLength {E : Ev} {b : Nat → Nat} {K : Kt} {M : Hp} {B : Nat} (hb : Lay E 162 b) (hW : Wd E b K M) (hS : Sim K B) (hB : B + 200000 < 2 ^ 26) (c : Int32) : PairI E b g0 mL_tailLength mX5_tailLength [.ref (b 0), .int c, .ref (b 160)] [.ref (b 151), .int c] M B := by
  obtain ⟨nc, nt, no, hcur, hR⟩ := id hS
  obtain ⟨hok, hw⟩ := id hcur
  obtain ⟨hwf, hn, -, -, hro, -, hse, -, hch⟩ := id hok
  obtain ⟨-, hnc6, -, hnt8, -, hno8⟩ := id hwf
  obtain ⟨-, ⟨nx, kp, fq, hrc, hrh, hrs⟩, -⟩ := id hR
  have hbM := hb.bM
  by_cases hF : hasI nc c = 0
  · exact PairI.bad hb hS (by decide) (by decide) (wl_tailLength_1 hb hW (by decide) (by decide) ((cr_tailLength_1 hb hW hwf c hF).imp (fun _ _ z => z) (PXe.th hW))) hw (fun M1 => mr_tailLength_bad hbM hwf c hF)
  · obtain ⟨j, hj, rfl⟩ := hasI_ix (by omega) hF
    exact PairI.rd hb hS (wl_tailLength_ok hb hW (by decide) (by decide) ((cr_tailLength_ok hb hW hwf hj).imp (eqR.rs hW))) hw (fun M1 => mr_tailLength_ok hbM hwf hj)

set_option maxRecDepth 100000 in
set_option maxHeartbeats 4000000 in
theorem pr_tailsOf {E : Ev} {b : Nat → Nat} {K : Kt} {M : Hp} {B : Nat} (hb : Lay E 162 b) (hW : Wd E b K M) (hS : Sim K B) (hB : B + 200000 < 2 ^ 26) (c : Int32) : PairI E b g0 mL_tailsOf mX5_tailsOf [.ref (b 0), .int c, .ref (b 160)] [.ref (b 151), .int c] M B := by
  obtain ⟨nc, nt, no, hcur, hR⟩ := id hS
  obtain ⟨hok, hw⟩ := id hcur
  obtain ⟨hwf, hn, -, -, hro, -, hse, -, hch⟩ := id hok
  obtain ⟨-, hnc6, -, hnt8, -, hno8⟩ := id hwf
  obtain ⟨-, ⟨nx, kp, fq, hrc, hrh, hrs⟩, -⟩ := id hR
  have hbM := hb.bM
  by_cases hF : hasI nc c = 0
  · exact PairI.bad hb hS (by decide) (by decide) (wl_tailsOf_1 hb hW (by decide) (by decide) ((cr_tailsOf_1 hb hW hwf c hF).imp (fun _ _ z => z) (PXe.th hW))) hw (fun M1 => mr_tailsOf_bad hbM hwf c hF)
  · obtain ⟨j, hj, rfl⟩ := hasI_ix (by omega) hF
    exact PairI.rd hb hS (wl_tailsOf_ok hb hW (by decide) (by decide) ((cr_tailsOf_ok hb hW hwf hj).imp (eqR.rs hW))) hw (fun M1 => mr_tailsOf_ok hbM hwf hj)

set_option maxRecDepth 100000 in
set_option maxHeartbeats 4000000 in
theorem pr_length {E : Ev} {b : Nat → Nat} {K : Kt} {M : Hp} {B : Nat} (hb : Lay E 162 b) (hW : Wd E b K M) (hS : Sim K B) (hB : B + 200000 < 2 ^ 26) (c : Int32) : PairI E b g0 mL_length mX5_length [.ref (b 0), .int c, .ref (b 160)] [.ref (b 151), .int c] M B := by
  obtain ⟨nc, nt, no, hcur, hR⟩ := id hS
  obtain ⟨hok, hw⟩ := id hcur
  obtain ⟨hwf, hn, -, -, hro, -, hse, -, hch⟩ := id hok
  obtain ⟨-, hnc6, -, hnt8, -, hno8⟩ := id hwf
  obtain ⟨-, ⟨nx, kp, fq, hrc, hrh, hrs⟩, -⟩ := id hR
  have hbM := hb.bM
  by_cases hF : hasI nt c = 0
  · exact PairI.bad hb hS (by decide) (by decide) (wl_length_1 hb hW (by decide) (by decide) ((cr_length_1 hb hW hwf c hF).imp (fun _ _ z => z) (PXe.th hW))) hw (fun M1 => mr_length_bad hbM hwf c hF)
  · obtain ⟨j, hj, rfl⟩ := hasI_ix (by omega) hF
    exact PairI.rd hb hS (wl_length_ok hb hW (by decide) (by decide) ((cr_length_ok hb hW hwf hj).imp (eqR.rs hW))) hw (fun M1 => mr_length_ok hbM hwf hj)

set_option maxRecDepth 100000 in
set_option maxHeartbeats 4000000 in
theorem pr_isFree {E : Ev} {b : Nat → Nat} {K : Kt} {M : Hp} {B : Nat} (hb : Lay E 162 b) (hW : Wd E b K M) (hS : Sim K B) (hB : B + 200000 < 2 ^ 26) (c : Int32) : PairI E b g1 mL_isFree mX5_isFree [.ref (b 0), .int c, .ref (b 160)] [.ref (b 151), .int c] M B := by
  obtain ⟨nc, nt, no, hcur, hR⟩ := id hS
  obtain ⟨hok, hw⟩ := id hcur
  obtain ⟨hwf, hn, -, -, hro, -, hse, -, hch⟩ := id hok
  obtain ⟨-, hnc6, -, hnt8, -, hno8⟩ := id hwf
  obtain ⟨-, ⟨nx, kp, fq, hrc, hrh, hrs⟩, -⟩ := id hR
  have hbM := hb.bM
  by_cases hF : hasI nt c = 0
  · exact PairI.bad hb hS (by decide) (by decide) (wl_isFree_1 hb hW (by decide) (by decide) ((cr_isFree_1 hb hW hwf c hF).imp (fun _ _ z => z) (PXe.th hW))) hw (fun M1 => mr_isFree_bad hbM hwf c hF)
  · obtain ⟨j, hj, rfl⟩ := hasI_ix (by omega) hF
    exact PairI.rd hb hS (wl_isFree_ok hb hW (by decide) (by decide) ((cr_isFree_ok hb hW hwf hj).imp (eqR.rs hW))) hw (fun M1 => mr_isFree_ok hbM hwf hj)

set_option maxRecDepth 100000 in
set_option maxHeartbeats 4000000 in
theorem pr_motionAt {E : Ev} {b : Nat → Nat} {K : Kt} {M : Hp} {B : Nat} (hb : Lay E 162 b) (hW : Wd E b K M) (hS : Sim K B) (hB : B + 200000 < 2 ^ 26) (c : Int32) : PairI E b g0 mL_motionAt mX5_motionAt [.ref (b 0), .int c, .ref (b 160)] [.ref (b 151), .int c] M B := by
  obtain ⟨nc, nt, no, hcur, hR⟩ := id hS
  obtain ⟨hok, hw⟩ := id hcur
  obtain ⟨hwf, hn, -, -, hro, -, hse, -, hch⟩ := id hok
  obtain ⟨-, hnc6, -, hnt8, -, hno8⟩ := id hwf
  obtain ⟨-, ⟨nx, kp, fq, hrc, hrh, hrs⟩, -⟩ := id hR
  have hbM := hb.bM
  by_cases hF : hasI no c = 0
  · exact PairI.bad hb hS (by decide) (by decide) (wl_motionAt_1 hb hW (by decide) (by decide) ((cr_motionAt_1 hb hW hwf c hF).imp (fun _ _ z => z) (PXe.th hW))) hw (fun M1 => mr_motionAt_bad hbM hwf c hF)
  · obtain ⟨j, hj, rfl⟩ := hasI_ix (by omega) hF
    exact PairI.rd hb hS (wl_motionAt_ok hb hW (by decide) (by decide) ((cr_motionAt_ok hb hW hwf hj).imp (eqR.rs hW))) hw (fun M1 => mr_motionAt_ok hbM hwf hj)

set_option maxRecDepth 100000 in
set_option maxHeartbeats 4000000 in
theorem pr_renterOf {E : Ev} {b : Nat → Nat} {K : Kt} {M : Hp} {B : Nat} (hb : Lay E 162 b) (hW : Wd E b K M) (hS : Sim K B) (hB : B + 200000 < 2 ^ 26) (c : Int32) : PairI E b g0 mL_renterOf mX5_renterOf [.ref (b 0), .int c, .ref (b 160)] [.ref (b 151), .int c] M B := by
  obtain ⟨nc, nt, no, hcur, hR⟩ := id hS
  obtain ⟨hok, hw⟩ := id hcur
  obtain ⟨hwf, hn, -, -, hro, -, hse, -, hch⟩ := id hok
  obtain ⟨-, hnc6, -, hnt8, -, hno8⟩ := id hwf
  obtain ⟨-, ⟨nx, kp, fq, hrc, hrh, hrs⟩, -⟩ := id hR
  have hbM := hb.bM
  by_cases hF : hasI nt c = 0
  · exact PairI.bad hb hS (by decide) (by decide) (wl_renterOf_1 hb hW (by decide) (by decide) ((cr_renterOf_1 hb hW hwf c hF).imp (fun _ _ z => z) (PXe.th hW))) hw (fun M1 => mr_renterOf_bad hbM hwf c hF)
  · obtain ⟨j, hj, rfl⟩ := hasI_ix (by omega) hF
    by_cases h5 : (K.2.1 0).2 5 j = -1
    · exact PairI.bad hb hS (by decide) (by decide) (wl_renterOf_2 hb hW (by decide) (by decide) ((cr_renterOf_2 hb hW hwf hj h5).imp (fun _ _ z => z) (PXe.th hW))) hw (fun M1 => mr_renterOf_free hbM hwf hj h5)
    · exact PairI.rd hb hS (wl_renterOf_ok hb hW (by decide) (by decide) ((cr_renterOf_ok hb hW hwf hj h5).imp (eqR.rs hW))) hw (fun M1 => mr_renterOf_ok hbM hwf hj h5)

set_option maxRecDepth 100000 in
set_option maxHeartbeats 4000000 in
theorem pr_shortestFreeTail {E : Ev} {b : Nat → Nat} {K : Kt} {M : Hp} {B : Nat} (hb : Lay E 162 b) (hW : Wd E b K M) (hS : Sim K B) (hB : B + 200000 < 2 ^ 26) : PairI E b g0 mL_shortestFreeTail mX5_shortestFreeTail [.ref (b 0), .ref (b 160)] [.ref (b 151)] M B := by
  obtain ⟨nc, nt, no, hcur, hR⟩ := id hS
  obtain ⟨hok, hw⟩ := id hcur
  obtain ⟨hwf, hn, -, -, hro, -, hse, -, hch⟩ := id hok
  obtain ⟨-, hnc6, -, hnt8, -, hno8⟩ := id hwf
  obtain ⟨-, ⟨nx, kp, fq, hrc, hrh, hrs⟩, -⟩ := id hR
  have hbM := hb.bM
  have hm : ∀ M1, _ := fun M1 => mr_shortest (b := bM b) (T := K.2.2.2.2.1) (M := M1) hbM hwf
  rcases ho : shO (K.2.1 0) nt with _ | k
  · rw [ho] at hm
    exact PairI.bad hb hS (by decide) (by decide) (wl_shortestFreeTail_1 hb hW (by decide) (by decide) ((cr_shortest_1 hb hW hwf ho).imp (fun _ _ z => z) (PXe.th hW))) hw (fun M1 => hm M1)
  · rw [ho] at hm
    exact PairI.rd hb hS (wl_shortestFreeTail_ok hb hW (by decide) (by decide) ((cr_shortest_ok hb hW hwf ho (by have := shO_lt ho; omega)).imp (eqR.rs hW))) hw (fun M1 => hm M1)

set_option maxRecDepth 100000 in
set_option maxHeartbeats 4000000 in
theorem pr_committeeAtRank {E : Ev} {b : Nat → Nat} {K : Kt} {M : Hp} {B : Nat} (hb : Lay E 162 b) (hW : Wd E b K M) (hS : Sim K B) (hB : B + 200000 < 2 ^ 26) (c : Int32) : PairI E b g0 mL_committeeAtRank mX5_committeeAtRank [.ref (b 0), .int c, .ref (b 160)] [.ref (b 151), .int c] M B := by
  obtain ⟨nc, nt, no, hcur, hR⟩ := id hS
  obtain ⟨hok, hw⟩ := id hcur
  obtain ⟨hwf, hn, -, -, hro, -, hse, -, hch⟩ := id hok
  obtain ⟨-, hnc6, -, hnt8, -, hno8⟩ := id hwf
  obtain ⟨-, ⟨nx, kp, fq, hrc, hrh, hrs⟩, -⟩ := id hR
  have hbM := hb.bM
  have hm : ∀ M1, _ := fun M1 => mr_rank (b := bM b) (T := K.2.2.2.2.1) (M := M1) hbM hwf (hok.sm (by omega)) c
  rcases ho : rankO (K.2.1 0) nc c with _ | k
  · rw [ho] at hm
    exact PairI.bad hb hS (by decide) (by decide) (wl_committeeAtRank_1 hb hW (by decide) (by decide) ((cr_rank_1 hb hW hwf c ho).imp (fun _ _ z => z) (PXe.th hW))) hw (fun M1 => hm M1)
  · rw [ho] at hm
    exact PairI.rd hb hS (wl_committeeAtRank_ok hb hW (by decide) (by decide) ((cr_rank_ok hb hW hwf c ho (by have := (firstI_some ho).2.1; omega)).imp (eqR.rs hW))) hw (fun M1 => hm M1)

set_option maxRecDepth 100000 in
set_option maxHeartbeats 4000000 in
theorem pr_moverOf {E : Ev} {b : Nat → Nat} {K : Kt} {M : Hp} {B : Nat} (hb : Lay E 162 b) (hW : Wd E b K M) (hS : Sim K B) (hB : B + 200000 < 2 ^ 26) (c : Int32) : PairI E b g0 mL_moverOf mX5_moverOf [.ref (b 0), .int c, .ref (b 160)] [.ref (b 151), .int c] M B := by
  obtain ⟨nc, nt, no, hcur, hR⟩ := id hS
  obtain ⟨hok, hw⟩ := id hcur
  obtain ⟨hwf, hn, -, -, hro, -, hse, -, hch⟩ := id hok
  obtain ⟨-, hnc6, -, hnt8, -, hno8⟩ := id hwf
  obtain ⟨-, ⟨nx, kp, fq, hrc, hrh, hrs⟩, -⟩ := id hR
  have hbM := hb.bM
  rcases ho : slotO (K.2.1 0) no c with _ | k
  · exact PairI.bad hb hS (by decide) (by decide) (wl_moverOf_1 hb hW (by decide) (by decide) ((cr_moverOf_1 hb hW hwf ho).imp (fun _ _ z => z) (PXe.th hW))) hw (fun M1 => mr_moverOf_bad hbM hwf ho)
  · obtain ⟨a, o, hk, ha, hmv, e2, ho2, e4⟩ := OkS.mot (σ := (K.2.1 0, nc, nt, no)) hok ho
    replace hk : k < no := hk
    replace ha : a < nc := ha
    replace ho2 : ObjOk (K.2.1 0) nc nt k o := ho2
    exact PairI.rd hb hS (wl_moverOf_ok hb hW (by decide) (by decide) ((cr_moverOf_ok hb hW hwf ho).imp (eqR.rs hW))) hw (fun M1 => mr_moverOf_ok hbM hwf ho)

set_option maxRecDepth 100000 in
set_option maxHeartbeats 4000000 in
theorem pr_isSeconded {E : Ev} {b : Nat → Nat} {K : Kt} {M : Hp} {B : Nat} (hb : Lay E 162 b) (hW : Wd E b K M) (hS : Sim K B) (hB : B + 200000 < 2 ^ 26) (c : Int32) : PairI E b g1 mL_isSeconded mX5_isSeconded [.ref (b 0), .int c, .ref (b 160)] [.ref (b 151), .int c] M B := by
  obtain ⟨nc, nt, no, hcur, hR⟩ := id hS
  obtain ⟨hok, hw⟩ := id hcur
  obtain ⟨hwf, hn, -, -, hro, -, hse, -, hch⟩ := id hok
  obtain ⟨-, hnc6, -, hnt8, -, hno8⟩ := id hwf
  obtain ⟨-, ⟨nx, kp, fq, hrc, hrh, hrs⟩, -⟩ := id hR
  have hbM := hb.bM
  rcases ho : slotO (K.2.1 0) no c with _ | k
  · exact PairI.bad hb hS (by decide) (by decide) (wl_isSeconded_1 hb hW (by decide) (by decide) ((cr_isSeconded_1 hb hW hwf ho).imp (fun _ _ z => z) (PXe.th hW))) hw (fun M1 => mr_isSeconded_bad hbM hwf ho)
  · obtain ⟨a, o, hk, ha, hmv, e2, ho2, e4⟩ := OkS.mot (σ := (K.2.1 0, nc, nt, no)) hok ho
    replace hk : k < no := hk
    replace ha : a < nc := ha
    replace ho2 : ObjOk (K.2.1 0) nc nt k o := ho2
    exact PairI.rd hb hS (wl_isSeconded_ok hb hW (by decide) (by decide) ((cr_isSeconded_ok hb hW hwf ho).imp (eqR.rs hW))) hw (fun M1 => mr_isSeconded_ok hbM hwf ho hse)

set_option maxRecDepth 100000 in
set_option maxHeartbeats 4000000 in
theorem pr_isTabled {E : Ev} {b : Nat → Nat} {K : Kt} {M : Hp} {B : Nat} (hb : Lay E 162 b) (hW : Wd E b K M) (hS : Sim K B) (hB : B + 200000 < 2 ^ 26) (c : Int32) : PairI E b g1 mL_isTabled mX5_isTabled [.ref (b 0), .int c, .ref (b 160)] [.ref (b 151), .int c] M B := by
  obtain ⟨nc, nt, no, hcur, hR⟩ := id hS
  obtain ⟨hok, hw⟩ := id hcur
  obtain ⟨hwf, hn, -, -, hro, -, hse, -, hch⟩ := id hok
  obtain ⟨-, hnc6, -, hnt8, -, hno8⟩ := id hwf
  obtain ⟨-, ⟨nx, kp, fq, hrc, hrh, hrs⟩, -⟩ := id hR
  have hbM := hb.bM
  rcases ho : slotO (K.2.1 0) no c with _ | k
  · exact PairI.bad hb hS (by decide) (by decide) (wl_isTabled_1 hb hW (by decide) (by decide) ((cr_isTabled_1 hb hW hwf ho).imp (fun _ _ z => z) (PXe.th hW))) hw (fun M1 => mr_isTabled_bad hbM hwf ho)
  · obtain ⟨a, o, hk, ha, hmv, e2, ho2, e4⟩ := OkS.mot (σ := (K.2.1 0, nc, nt, no)) hok ho
    replace hk : k < no := hk
    replace ha : a < nc := ha
    replace ho2 : ObjOk (K.2.1 0) nc nt k o := ho2
    exact PairI.rd hb hS (wl_isTabled_ok hb hW (by decide) (by decide) ((cr_isTabled_ok hb hW hwf ho hn).imp (eqR.rs hW))) hw (fun M1 => mr_isTabled_ok hbM hwf ho hn)

set_option maxRecDepth 100000 in
set_option maxHeartbeats 4000000 in
theorem pr_votesFor {E : Ev} {b : Nat → Nat} {K : Kt} {M : Hp} {B : Nat} (hb : Lay E 162 b) (hW : Wd E b K M) (hS : Sim K B) (hB : B + 200000 < 2 ^ 26) (c : Int32) : PairI E b g0 mL_votesFor mX5_votesFor [.ref (b 0), .int c, .ref (b 160)] [.ref (b 151), .int c] M B := by
  obtain ⟨nc, nt, no, hcur, hR⟩ := id hS
  obtain ⟨hok, hw⟩ := id hcur
  obtain ⟨hwf, hn, -, -, hro, -, hse, -, hch⟩ := id hok
  obtain ⟨-, hnc6, -, hnt8, -, hno8⟩ := id hwf
  obtain ⟨-, ⟨nx, kp, fq, hrc, hrh, hrs⟩, -⟩ := id hR
  have hbM := hb.bM
  rcases ho : slotO (K.2.1 0) no c with _ | k
  · exact PairI.bad hb hS (by decide) (by decide) (wl_votesFor_1 hb hW (by decide) (by decide) ((cr_votesFor_1 hb hW hwf ho).imp (fun _ _ z => z) (PXe.th hW))) hw (fun M1 => mr_votesFor_bad hbM hwf ho)
  · obtain ⟨a, o, hk, ha, hmv, e2, ho2, e4⟩ := OkS.mot (σ := (K.2.1 0, nc, nt, no)) hok ho
    replace hk : k < no := hk
    replace ha : a < nc := ha
    replace ho2 : ObjOk (K.2.1 0) nc nt k o := ho2
    exact PairI.rd hb hS (wl_votesFor_ok hb hW (by decide) (by decide) ((cr_votesFor_ok hb hW hwf ho hmv ha).imp (eqR.rs hW))) hw (fun M1 => mr_votesFor_ok hbM hwf ho hn hmv ha)

set_option maxRecDepth 100000 in
set_option maxHeartbeats 4000000 in
theorem pr_votesAgainst {E : Ev} {b : Nat → Nat} {K : Kt} {M : Hp} {B : Nat} (hb : Lay E 162 b) (hW : Wd E b K M) (hS : Sim K B) (hB : B + 200000 < 2 ^ 26) (c : Int32) : PairI E b g0 mL_votesAgainst mX5_votesAgainst [.ref (b 0), .int c, .ref (b 160)] [.ref (b 151), .int c] M B := by
  obtain ⟨nc, nt, no, hcur, hR⟩ := id hS
  obtain ⟨hok, hw⟩ := id hcur
  obtain ⟨hwf, hn, -, -, hro, -, hse, -, hch⟩ := id hok
  obtain ⟨-, hnc6, -, hnt8, -, hno8⟩ := id hwf
  obtain ⟨-, ⟨nx, kp, fq, hrc, hrh, hrs⟩, -⟩ := id hR
  have hbM := hb.bM
  rcases ho : slotO (K.2.1 0) no c with _ | k
  · exact PairI.bad hb hS (by decide) (by decide) (wl_votesAgainst_1 hb hW (by decide) (by decide) ((cr_votesAgainst_1 hb hW hwf ho).imp (fun _ _ z => z) (PXe.th hW))) hw (fun M1 => mr_votesAgainst_bad hbM hwf ho)
  · obtain ⟨a, o, hk, ha, hmv, e2, ho2, e4⟩ := OkS.mot (σ := (K.2.1 0, nc, nt, no)) hok ho
    replace hk : k < no := hk
    replace ha : a < nc := ha
    replace ho2 : ObjOk (K.2.1 0) nc nt k o := ho2
    exact PairI.rd hb hS (wl_votesAgainst_ok hb hW (by decide) (by decide) ((cr_votesAgainst_ok hb hW hwf ho hmv ha).imp (eqR.rs hW))) hw (fun M1 => mr_votesAgainst_ok hbM hwf ho hn hmv ha)

set_option maxRecDepth 100000 in
set_option maxHeartbeats 4000000 in
theorem pr_votesForByMember {E : Ev} {b : Nat → Nat} {K : Kt} {M : Hp} {B : Nat} (hb : Lay E 162 b) (hW : Wd E b K M) (hS : Sim K B) (hB : B + 200000 < 2 ^ 26) (c : Int32) : PairI E b g0 mL_votesForByMember mX5_votesForByMember [.ref (b 0), .int c, .ref (b 160)] [.ref (b 151), .int c] M B := by
  obtain ⟨nc, nt, no, hcur, hR⟩ := id hS
  obtain ⟨hok, hw⟩ := id hcur
  obtain ⟨hwf, hn, -, -, hro, -, hse, -, hch⟩ := id hok
  obtain ⟨-, hnc6, -, hnt8, -, hno8⟩ := id hwf
  obtain ⟨-, ⟨nx, kp, fq, hrc, hrh, hrs⟩, -⟩ := id hR
  have hbM := hb.bM
  rcases ho : slotO (K.2.1 0) no c with _ | k
  · exact PairI.bad hb hS (by decide) (by decide) (wl_votesForByMember_1 hb hW (by decide) (by decide) ((cr_votesForByMember_1 hb hW hwf ho).imp (fun _ _ z => z) (PXe.th hW))) hw (fun M1 => mr_votesM_bad hbM hwf ho)
  · obtain ⟨a, o, hk, ha, hmv, e2, ho2, e4⟩ := OkS.mot (σ := (K.2.1 0, nc, nt, no)) hok ho
    replace hk : k < no := hk
    replace ha : a < nc := ha
    replace ho2 : ObjOk (K.2.1 0) nc nt k o := ho2
    have hm : ∀ M1, _ := fun M1 => mr_votesM_ok (b := bM b) (T := K.2.2.2.2.1) (M := M1) hbM hwf ho hn hmv ha
    rw [hok.sv k a] at hm
    exact PairI.rd hb hS (wl_votesForByMember_ok hb hW (by decide) (by decide) ((cr_votesForByMember_ok hb hW hwf ho hmv ha).imp (eqR.rs hW))) hw (fun M1 => hm M1)

set_option maxRecDepth 100000 in
set_option maxHeartbeats 4000000 in
theorem pr_seconderOf {E : Ev} {b : Nat → Nat} {K : Kt} {M : Hp} {B : Nat} (hb : Lay E 162 b) (hW : Wd E b K M) (hS : Sim K B) (hB : B + 200000 < 2 ^ 26) (c : Int32) : PairI E b g0 mL_seconderOf mX5_seconderOf [.ref (b 0), .int c, .ref (b 160)] [.ref (b 151), .int c] M B := by
  obtain ⟨nc, nt, no, hcur, hR⟩ := id hS
  obtain ⟨hok, hw⟩ := id hcur
  obtain ⟨hwf, hn, -, -, hro, -, hse, -, hch⟩ := id hok
  obtain ⟨-, hnc6, -, hnt8, -, hno8⟩ := id hwf
  obtain ⟨-, ⟨nx, kp, fq, hrc, hrh, hrs⟩, -⟩ := id hR
  have hbM := hb.bM
  rcases ho : slotO (K.2.1 0) no c with _ | k
  · exact PairI.bad hb hS (by decide) (by decide) (wl_seconderOf_1 hb hW (by decide) (by decide) ((cr_seconderOf_1 hb hW hwf ho).imp (fun _ _ z => z) (PXe.th hW))) hw (fun M1 => mr_seconderOf_bad hbM hwf ho)
  · by_cases h5 : (K.2.1 0).2 11 k = -1
    · exact PairI.bad hb hS (by decide) (by decide) (wl_seconderOf_2 hb hW (by decide) (by decide) ((cr_seconderOf_2 hb hW hwf ho h5).imp (fun _ _ z => z) (PXe.th hW))) hw (fun M1 => mr_seconderOf_none hbM hwf ho h5)
    · exact PairI.rd hb hS (wl_seconderOf_ok hb hW (by decide) (by decide) ((cr_seconderOf_ok hb hW hwf ho h5).imp (eqR.rs hW))) hw (fun M1 => mr_seconderOf_ok hbM hwf ho h5)

set_option maxRecDepth 100000 in
set_option maxHeartbeats 4000000 in
theorem pr_arrearsAfter {E : Ev} {b : Nat → Nat} {K : Kt} {M : Hp} {B : Nat} (hb : Lay E 162 b) (hW : Wd E b K M) (hS : Sim K B) (hB : B + 200000 < 2 ^ 26) (c x : Int32) : PairI E b g0 mL_arrearsAfter mX5_arrearsAfter [.ref (b 0), .int c, .int x, .ref (b 160)] [.ref (b 151), .int c, .int x] M B := by
  obtain ⟨nc, nt, no, hcur, hR⟩ := id hS
  obtain ⟨hok, hw⟩ := id hcur
  obtain ⟨hwf, hn, -, -, hro, -, hse, -, hch⟩ := id hok
  obtain ⟨-, hnc6, -, hnt8, -, hno8⟩ := id hwf
  obtain ⟨-, ⟨nx, kp, fq, hrc, hrh, hrs⟩, -⟩ := id hR
  have hbM := hb.bM
  by_cases hF : hasI nc c = 0
  · exact PairI.bad hb hS (by decide) (by decide) (wl_arrearsAfter_1 hb hW (by decide) (by decide) ((cr_arrearsAfter_1 hb hW hwf c x hF).imp (fun _ _ z => z) (PXe.th hW))) hw (fun M1 => mr_after_bad hbM hwf c x hF)
  · obtain ⟨j, hj, rfl⟩ := hasI_ix (by omega) hF
    by_cases h2 : btw x (nI 0) (nI 24) = 0
    · exact PairI.bad hb hS (by decide) (by decide) (wl_arrearsAfter_2 hb hW (by decide) (by decide) ((cr_arrearsAfter_2 hb hW hwf hj x h2).imp (fun _ _ z => z) (PXe.th hW))) hw (fun M1 => mr_after_bad2 hbM hwf hj x h2)
    · obtain ⟨q, -, hq, rfl⟩ := btw_ix (by decide) (by decide) h2
      have hm : ∀ M1, _ := fun M1 => mr_after_ok (b := bM b) (T := K.2.2.2.2.1) (M := M1) hbM hwf hn hj (h := q) (by omega) h2
      rw [rat_pas hok (by omega) hj (by omega)] at hm
      have hc9 := cr_arrearsAfter_ok hb hW hwf hn hj (by omega) h2
      rw [hok.hag (by omega) (hR.1 1 (by decide)) hj hq] at hc9
      exact PairI.ok hb (wl_arrearsAfter_ok hb hW (by decide) (by decide) (hc9.imp WR.rs)) hw hm rfl (fun lo => ⟨nc, nt, no, ⟨hok.mono (by omega), rfl⟩, (hR.aft hcur q lo _ _ _).mono (by omega)⟩)

set_option maxRecDepth 100000 in
set_option maxHeartbeats 4000000 in
theorem pr_arrearsAfterByRate {E : Ev} {b : Nat → Nat} {K : Kt} {M : Hp} {B : Nat} (hb : Lay E 162 b) (hW : Wd E b K M) (hS : Sim K B) (hB : B + 200000 < 2 ^ 26) (c x : Int32) : PairI E b g0 mL_arrearsAfterByRate mX5_arrearsAfterByRate [.ref (b 0), .int c, .int x, .ref (b 160)] [.ref (b 151), .int c, .int x] M B := by
  obtain ⟨nc, nt, no, hcur, hR⟩ := id hS
  obtain ⟨hok, hw⟩ := id hcur
  obtain ⟨hwf, hn, -, -, hro, -, hse, -, hch⟩ := id hok
  obtain ⟨-, hnc6, -, hnt8, -, hno8⟩ := id hwf
  obtain ⟨-, ⟨nx, kp, fq, hrc, hrh, hrs⟩, -⟩ := id hR
  have hbM := hb.bM
  by_cases hF : hasI nc c = 0
  · exact PairI.bad hb hS (by decide) (by decide) (wl_arrearsAfterByRate_1 hb hW (by decide) (by decide) ((cr_arrearsAfterByRate_1 hb hW hwf c x hF).imp (fun _ _ z => z) (PXe.th hW))) hw (fun M1 => mr_rate_bad hbM hwf c x hF)
  · obtain ⟨j, hj, rfl⟩ := hasI_ix (by omega) hF
    by_cases h2 : btw x (nI 0) (nI 24) = 0
    · exact PairI.bad hb hS (by decide) (by decide) (wl_arrearsAfterByRate_2 hb hW (by decide) (by decide) ((cr_arrearsAfterByRate_2 hb hW hwf hj x h2).imp (fun _ _ z => z) (PXe.th hW))) hw (fun M1 => mr_rate_bad2 hbM hwf hj x h2)
    · obtain ⟨q, -, hq, rfl⟩ := btw_ix (by decide) (by decide) h2
      have hm : ∀ M1, _ := fun M1 => mr_rate_ok (b := bM b) (T := K.2.2.2.2.1) (M := M1) hbM hwf hn hj (h := q) (by omega) h2
      rw [rat_pas hok (by omega) hj (by omega)] at hm
      have hc9 := cr_arrearsAfterByRate_ok hb hW hwf hj _ h2
      exact PairI.ok hb (wl_arrearsAfterByRate_ok hb hW (by decide) (by decide) (hc9.imp (eqR.rs hW))) hw hm rfl (fun lo => ⟨nc, nt, no, ⟨hok.mono (by omega), rfl⟩, (hR.row lo _ _ _).mono (by omega)⟩)

set_option maxRecDepth 100000 in
set_option maxHeartbeats 4000000 in
theorem pr_errorPosition {E : Ev} {b : Nat → Nat} {K : Kt} {M : Hp} {B : Nat} (hb : Lay E 162 b) (hW : Wd E b K M) (hS : Sim K B) (hB : B + 200000 < 2 ^ 26) : PairI E b g0 mL_errorPosition mX5_errorPosition [.ref (b 0), .ref (b 160)] [.ref (b 151)] M B := by
  obtain ⟨nc, nt, no, hcur, hR⟩ := id hS
  obtain ⟨hok, hw⟩ := id hcur
  obtain ⟨hwf, hn, -, -, hro, -, hse, -, hch⟩ := id hok
  obtain ⟨-, hnc6, -, hnt8, -, hno8⟩ := id hwf
  obtain ⟨-, ⟨nx, kp, fq, hrc, hrh, hrs⟩, -⟩ := id hR
  have hbM := hb.bM
  obtain ⟨hN, hRg, hSv, hTx, hLn, he1, he2, he3, he4⟩ := id hR
  rcases he3 with h1 | ⟨e, he, h1⟩
  · exact PairI.bad hb hS (by decide) (by decide) (wl_errorPosition_1 hb hW (by decide) (by decide) ((cr_errorPosition_1 hb hW h1).imp (fun _ _ z => z) (PXe.th hW))) hw (fun M1 => mr_errorPosition_bad hbM (by rw [he1, h1]; decide))
  · have hm : ∀ M1, _ := fun M1 => mr_errorPosition_ok (b := bM b) (T := K.2.2.2.2.1) (w := wOf (K.2.1 0) nc nt no) (M := M1) hbM (by rw [he1, h1]; exact nI_pos (by omega))
    rw [he1] at hm
    exact PairI.rd hb hS (wl_errorPosition_ok hb hW (by decide) (by decide) ((cr_errorPosition_ok hb hW (by rw [h1]; exact nI_m1 (by omega))).imp (eqR.rs hW))) hw (fun M1 => hm M1)

set_option maxRecDepth 100000 in
set_option maxHeartbeats 4000000 in
theorem pr_failedCommand {E : Ev} {b : Nat → Nat} {K : Kt} {M : Hp} {B : Nat} (hb : Lay E 162 b) (hW : Wd E b K M) (hS : Sim K B) (hB : B + 200000 < 2 ^ 26) : PairI E b g0 mL_failedCommand mX5_failedCommand [.ref (b 0), .ref (b 160)] [.ref (b 151)] M B := by
  obtain ⟨nc, nt, no, hcur, hR⟩ := id hS
  obtain ⟨hok, hw⟩ := id hcur
  obtain ⟨hwf, hn, -, -, hro, -, hse, -, hch⟩ := id hok
  obtain ⟨-, hnc6, -, hnt8, -, hno8⟩ := id hwf
  obtain ⟨-, ⟨nx, kp, fq, hrc, hrh, hrs⟩, -⟩ := id hR
  have hbM := hb.bM
  obtain ⟨hN, hRg, hSv, hTx, hLn, he1, he2, he3, he4⟩ := id hR
  rcases he4 with ⟨h1, h2⟩ | ⟨e, v, he, h1, hv, h2, h3⟩
  · exact PairI.bad hb hS (by decide) (by decide) (wl_failedCommand_1 hb hW (by decide) (by decide) ((cr_failedCommand_1 hb hW h1).imp (fun _ _ z => z) (PXe.th hW))) hw (fun M1 => mr_failedCommand_bad hbM (by rw [he2, h1]; decide))
  · have hm : ∀ M1, _ := fun M1 => mr_failedCommand_ok (b := bM b) (T := K.2.2.2.2.1) (w := wOf (K.2.1 0) nc nt no) (M := M1) hbM (by rw [he2, h1]; exact nI_pos (by omega))
    rw [he2] at hm
    exact PairI.rd hb hS (wl_failedCommand_ok hb hW (by decide) (by decide) ((cr_failedCommand_ok hb hW (by rw [h1]; exact nI_m1 (by omega))).imp (eqR.rs hW))) hw (fun M1 => hm M1)

set_option maxRecDepth 100000 in
set_option maxHeartbeats 4000000 in
theorem pr_failedException {E : Ev} {b : Nat → Nat} {K : Kt} {M : Hp} {B : Nat} (hb : Lay E 162 b) (hW : Wd E b K M) (hS : Sim K B) (hB : B + 200000 < 2 ^ 26) : PairI E b g0 mL_failedException mX5_failedException [.ref (b 0), .ref (b 160)] [.ref (b 151)] M B := by
  obtain ⟨nc, nt, no, hcur, hR⟩ := id hS
  obtain ⟨hok, hw⟩ := id hcur
  obtain ⟨hwf, hn, -, -, hro, -, hse, -, hch⟩ := id hok
  obtain ⟨-, hnc6, -, hnt8, -, hno8⟩ := id hwf
  obtain ⟨-, ⟨nx, kp, fq, hrc, hrh, hrs⟩, -⟩ := id hR
  have hbM := hb.bM
  obtain ⟨hN, hRg, hSv, hTx, hLn, he1, he2, he3, he4⟩ := id hR
  rcases he4 with ⟨h1, h2⟩ | ⟨e, v, he, h1, hv, h2, h3⟩
  · exact PairI.bad hb hS (by decide) (by decide) (wl_failedException_1 hb hW (by decide) (by decide) ((cr_failedException_1 hb hW h2).imp (fun _ _ z => z) (PXe.th hW))) hw (fun M1 => mr_failedException_bad hbM (by rw [he2, h1]; decide))
  · have hm : ∀ M1, _ := fun M1 => mr_failedException_ok (b := bM b) (T := K.2.2.2.2.1) (w := wOf (K.2.1 0) nc nt no) (M := M1) hbM (by rw [he2, h1]; exact nI_pos (by omega))
    rw [h3, ← h2] at hm
    exact PairI.rd hb hS (wl_failedException_ok hb hW (by decide) (by decide) ((cr_failedException_ok hb hW (by rw [h2]; exact nI_m1 (by omega))).imp (eqR.rs hW))) hw (fun M1 => hm M1)

set_option maxRecDepth 100000 in
set_option maxHeartbeats 4000000 in
theorem pr_describeCommittee {E : Ev} {b : Nat → Nat} {K : Kt} {M : Hp} {B : Nat} (hb : Lay E 162 b) (hW : Wd E b K M) (hS : Sim K B) (hB : B + 200000 < 2 ^ 26) (c : Int32) : PairI E b g0 mL_describeCommittee mX5_describeCommittee [.ref (b 0), .int c, .ref (b 160)] [.ref (b 151), .int c] M B := by
  obtain ⟨nc, nt, no, hcur, hR⟩ := id hS
  obtain ⟨hok, hw⟩ := id hcur
  obtain ⟨hwf, hn, -, -, hro, -, hse, -, hch⟩ := id hok
  obtain ⟨-, hnc6, -, hnt8, -, hno8⟩ := id hwf
  obtain ⟨-, ⟨nx, kp, fq, hrc, hrh, hrs⟩, -⟩ := id hR
  have hbM := hb.bM
  by_cases hF : hasI nc c = 0
  · exact PairI.bad hb hS (by decide) (by decide) (wl_describeCommittee_1 hb hW (by decide) (by decide) ((cr_desC_1 hb hW hwf c hF).imp (fun _ _ z => z) (PXe.th hW))) hw (fun M1 => mr_desC_bad hbM hwf c hF)
  · obtain ⟨j, hj, rfl⟩ := hasI_ix (by omega) hF
    obtain ⟨⟨m, hm1, hm9, hm⟩, a, ha, hae⟩ := hok.2.2.1 j hj
    refine ⟨0, _, by decide, wl_describeCommittee_ok hb hW (by decide) (by decide) ((cr_desC_ok hb hW hwf hj hm (by omega) hae (by omega)).imp WR.rs), ?_⟩
    rintro K2 M1 ⟨K3, lo, rfl, rfl, hlo⟩ hW1
    have hmo := mr_desC_ok (b := bM b) (T := K.2.2.2.2.1) (M := M1) hbM hwf hn hj hm (by omega) hae (by omega)
    refine (Ct.wr (hW1.md hb) (by rw [show (kLo (kTx K 1 (desC (K.2.1 0) nt j)) lo).2.2.2.2.2.1 = _ from hw]; exact hmo)).imp ?_
    rintro v M2 ⟨rfl, T1, rfl, hq⟩
    have hW2 := hW1.mdw hb T1 (wOf (K.2.1 0) nc nt no)
    rw [show MdW E (bM b) T1 (wOf (K.2.1 0) nc nt no) M1 = _ from rfl] at hW2
    exact ⟨_, _, rfl, hW2, hq.1 0 (by decide), fun _ => hlo, nc, nt, no, ⟨hok.mono (by omega), rfl⟩, (hR.line (Nat.le_trans (desC_n hnt8) (by have := desH_n (S := K.2.1 0) (j := j) (by omega) hm (by omega) hae (by omega); omega)) hq lo _).mono (by omega)⟩

set_option maxRecDepth 100000 in
set_option maxHeartbeats 4000000 in
theorem pr_describeMotion {E : Ev} {b : Nat → Nat} {K : Kt} {M : Hp} {B : Nat} (hb : Lay E 162 b) (hW : Wd E b K M) (hS : Sim K B) (hB : B + 200000 < 2 ^ 26) (c : Int32) : PairI E b g0 mL_describeMotion mX5_describeMotion [.ref (b 0), .int c, .ref (b 160)] [.ref (b 151), .int c] M B := by
  obtain ⟨nc, nt, no, hcur, hR⟩ := id hS
  obtain ⟨hok, hw⟩ := id hcur
  obtain ⟨hwf, hn, -, -, hro, -, hse, -, hch⟩ := id hok
  obtain ⟨-, hnc6, -, hnt8, -, hno8⟩ := id hwf
  obtain ⟨-, ⟨nx, kp, fq, hrc, hrh, hrs⟩, -⟩ := id hR
  have hbM := hb.bM
  rcases ho : slotO (K.2.1 0) no c with _ | k
  · exact PairI.bad hb hS (by decide) (by decide) (wl_describeMotion_1 hb hW (by decide) (by decide) ((cr_describeMotion_1 hb hW hwf ho).imp (fun _ _ z => z) (PXe.th hW))) hw (fun M1 => mr_desM_bad hbM hwf ho)
  · obtain ⟨a, o, hk, ha, hmv, e2, ho2, e4⟩ := OkS.mot (σ := (K.2.1 0, nc, nt, no)) hok ho
    replace hk : k < no := hk
    replace ha : a < nc := ha
    replace ho2 : ObjOk (K.2.1 0) nc nt k o := ho2
    obtain ⟨i, hi, hie⟩ := hok.2.2.2.2.2.2.2.1.2 k hk
    have hci : c = nI i := (slotO_lt ho).2.symm.trans hie
    subst hci
    have ho8 : o < 10 := by rcases ho2.2 with ⟨-, h⟩ | ⟨-, h⟩ | ⟨-, h⟩ <;> omega
    refine ⟨0, _, by decide, wl_describeMotion_ok hb hW (by decide) (by decide) ((cr_desM_ok hb hW hwf ho hse (by omega) hmv ha ho2).imp WR.rs), ?_⟩
    rintro K2 M1 ⟨K3, lo, rfl, rfl, hlo⟩ hW1
    have hmo := mr_desM_ok (b := bM b) (T := K.2.2.2.2.1) (M := M1) hbM hwf ho hn hse (by omega) hmv ha ho2
    refine (Ct.wr (hW1.md hb) (by rw [show (kLo (kTx K 1 (desM (K.2.1 0) k i o a)) lo).2.2.2.2.2.1 = _ from hw]; exact hmo)).imp ?_
    rintro v M2 ⟨rfl, T1, rfl, hq⟩
    have hW2 := hW1.mdw hb T1 (wOf (K.2.1 0) nc nt no)
    rw [show MdW E (bM b) T1 (wOf (K.2.1 0) nc nt no) M1 = _ from rfl] at hW2
    exact ⟨_, _, rfl, hW2, hq.1 0 (by decide), fun _ => hlo, nc, nt, no, ⟨hok.mono (by omega), rfl⟩, (hR.line (desM_n (by omega) ho8 (by omega) ((hse k hk).imp id (fun ⟨j, h1, h2⟩ => ⟨j, by omega, h2⟩))) hq lo _).mono (by omega)⟩

set_option maxRecDepth 100000 in
set_option maxHeartbeats 4000000 in
theorem pr_lineAt {E : Ev} {b : Nat → Nat} {K : Kt} {M : Hp} {B : Nat} (hb : Lay E 162 b) (hW : Wd E b K M) (hS : Sim K B) (hB : B + 200000 < 2 ^ 26) (c : Int32) : PairI E b g0 mL_lineAt mX5_lineAt [.ref (b 0), .int c, .ref (b 160)] [.ref (b 151), .int c] M B := by
  obtain ⟨nc, nt, no, hcur, hR⟩ := id hS
  obtain ⟨hok, hw⟩ := id hcur
  obtain ⟨hwf, hn, -, -, hro, -, hse, -, hch⟩ := id hok
  obtain ⟨-, hnc6, -, hnt8, -, hno8⟩ := id hwf
  obtain ⟨-, ⟨nx, kp, fq, hrc, hrh, hrs⟩, -⟩ := id hR
  have hbM := hb.bM
  obtain ⟨hN, hRg, hSv, hTx, hLn, he1, he2, he3, he4⟩ := id hR
  by_cases hF : hasI (K.2.2.2.1 1).2 c = 0
  · exact PairI.bad hb hS (by decide) (by decide) (wl_lineAt_1 hb hW (by decide) (by decide) ((cr_lineAt_1 hb hW c hF).imp (fun _ _ z => z) (PXe.th hW))) hw (fun M1 => mr_lineAt_bad hbM hLn.1 (by have := hLn.2; omega) c hF)
  · obtain ⟨j, hj, rfl⟩ := hasI_ix (by have := hLn.2; omega) hF
    exact PairI.rd hb hS (wl_lineAt_ok hb hW (by decide) (by decide) ((cr_lineAt_ok hb hW hj (by have := hLn.2; omega)).imp (eqR.rs hW))) hw (fun M1 => mr_lineAt_ok hbM hLn.1 hLn.2 hj (sl_lt hb hW hj))

set_option maxRecDepth 100000 in
set_option maxHeartbeats 4000000 in
theorem pr_append {E : Ev} {b : Nat → Nat} {K : Kt} {M : Hp} {B : Nat} (hb : Lay E 162 b) (hW : Wd E b K M) (hS : Sim K B) (hB : B + 200000 < 2 ^ 26) (c : Int32) : PairI E b g0 mL_append mX5_append [.ref (b 0), .int c, .ref (b 160)] [.ref (b 151), .int c] M B := by
  obtain ⟨nc, nt, no, hcur, hR⟩ := id hS
  obtain ⟨hok, hw⟩ := id hcur
  obtain ⟨hwf, hn, -, -, hro, -, hse, -, hch⟩ := id hok
  obtain ⟨-, hnc6, -, hnt8, -, hno8⟩ := id hwf
  obtain ⟨-, ⟨nx, kp, fq, hrc, hrh, hrs⟩, -⟩ := id hR
  have hbM := hb.bM
  obtain ⟨hN, hRg, hSv, hTx, hLn, he1, he2, he3, he4⟩ := id hR
  have h60 := hTx.2.1
  by_cases hF : btw c (nI 32) (nI 126) = 0
  · exact PairI.bad hb hS (by decide) (by decide) (wl_append_1 hb hW (by decide) (by decide) ((cr_append_1 hb hW c hF).imp (fun _ _ z => z) (PXe.th hW))) hw (fun M1 => mr_append_bad hbM c hF)
  · by_cases hl : (K.2.2.2.1 0).2 = 60
    · exact PairI.bad hb hS (by decide) (by decide) (wl_append_2 hb hW (by decide) (by decide) ((cr_append_2 hb hW c hF hl).imp (fun _ _ z => z) (PXe.th hW))) hw (fun M1 => mr_append_full hbM c hF (by rw [hTx.1, hl]))
    · obtain ⟨q, -, hq, rfl⟩ := btw_ix (by decide) (by decide) hF
      exact PairI.ok hb (wl_append_ok hb hW (by decide) (by decide) ((cr_append_ok hb hW hF (by omega) (by omega)).imp WR.rs)) hw (fun M1 => mr_append_ok hbM hF (by omega) hTx.1 (by omega)) rfl (fun lo => ⟨nc, nt, no, ⟨hok.mono (by omega), rfl⟩, (hR.app (by omega) (by omega) lo _ _).mono (by omega)⟩)

