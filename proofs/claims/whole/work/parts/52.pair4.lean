theorem pAll_at {l : Ln} : ∀ (k a : Nat), a ≤ l.2 → (pAll l k a).2.1 ≤ l.2
  | 0, a, h => h
  | k + 1, a, h => by
    have hle := cmdM_le h
    by_cases hc : (cmdM l a).1 = true
    · rcases Bool.eq_false_or_eq_true (nx l (cmdM l a).2.1 59) with h9 | h9
      · rw [pAll_y hc h9]
        have hx := nx_lt h9
        exact pAll_at k _ (by omega)
      · rw [pAll_e hc (by rw [h9]; decide)]
        exact hle
    · rw [pAll_n hc]
      exact hle
theorem pAll_len {l : Ln} : ∀ (k a : Nat), (pAll l k a).2.2.length ≤ k
  | 0, a => Nat.le_refl _
  | k + 1, a => by
    by_cases hc : (cmdM l a).1 = true
    · rcases Bool.eq_false_or_eq_true (nx l (cmdM l a).2.1 59) with h9 | h9
      · rw [pAll_y hc h9]
        have := pAll_len (l := l) k ((cmdM l a).2.1 + 1)
        show (pAll l k ((cmdM l a).2.1 + 1)).2.2.length + 1 ≤ k + 1
        omega
      · rw [pAll_e hc (by rw [h9]; decide)]
        show 1 ≤ k + 1
        omega
    · rw [pAll_n hc]
      show 0 ≤ k + 1
      omega
theorem exL_le : ∀ (cs : List (Nat × List Nat)) (σ : Sg) (i : Nat), (exL cs σ i).2.1 ≤ i + cs.length
  | [], σ, i => Nat.le_refl _
  | c :: cs, σ, i => by
    rw [List.length_cons]
    by_cases h0 : xFL σ c = 0
    · rw [show exL (c :: cs) σ i = exL cs (xDL σ c) (i + 1) from if_pos h0]
      have := exL_le cs (xDL σ c) (i + 1)
      omega
    · rw [show exL (c :: cs) σ i = (σ, i, xFL σ c) from if_neg h0]
      show i ≤ _
      omega
theorem or_v2 {x : Int32} (h : x = 0 ∨ x = nI 1 ∨ x = nI 2) : ∃ v, v < 10 ∧ x = nI v := h.elim (fun e => ⟨0, by decide, e⟩) (fun h => h.elim (fun e => ⟨1, by decide, e⟩) (fun e => ⟨2, by decide, e⟩))
theorem or_v1 {x : Int32} (h : x = 0 ∨ x = nI 1) : ∃ v, v < 10 ∧ x = nI v := h.elim (fun e => ⟨0, by decide, e⟩) (fun e => ⟨1, by decide, e⟩)
theorem or_v3 {x : Int32} (h : x = 0 ∨ x = nI 1 ∨ x = nI 2 ∨ x = nI 3) : ∃ v, v < 10 ∧ x = nI v := by
  rcases h with e | e | e | e
  · exact ⟨0, by decide, e⟩
  · exact ⟨1, by decide, e⟩
  · exact ⟨2, by decide, e⟩
  · exact ⟨3, by decide, e⟩
theorem or_v4 {x : Int32} (h : x = 0 ∨ x = nI 1 ∨ x = nI 2 ∨ x = nI 3 ∨ x = nI 4) : ∃ v, v < 10 ∧ x = nI v := by
  rcases h with e | e | e | e | e
  · exact ⟨0, by decide, e⟩
  · exact ⟨1, by decide, e⟩
  · exact ⟨2, by decide, e⟩
  · exact ⟨3, by decide, e⟩
  · exact ⟨4, by decide, e⟩
theorem xF_rg {σ : Sg} {kind : Nat} {p0 p1 : Int32} : ∃ v, v < 10 ∧ xF σ kind p0 p1 = nI v := by
  match kind with
  | 0 => exact or_v2 (comF_rg _ _)
  | 1 => exact or_v2 (taiF_rg _ _)
  | 2 => exact or_v3 (payF_rg _ _ _ _)
  | 3 => exact or_v2 (lauF_rg _ _ _)
  | 4 => exact or_v2 (tmoF_rg _ _ _ _ _)
  | 5 => exact or_v2 (tmoF_rg _ _ _ _ _)
  | 6 => exact or_v2 (gmoF_rg _ _ _ _)
  | 7 => exact or_v4 (secF_rg _ _ _ _ _)
  | 8 => exact or_v2 (untF_rg _ _ _)
  | 9 => exact or_v1 (witF_rg _ _ _)
  | 10 => exact or_v2 (votF_rg _ _ _)
  | 11 => exact or_v1 (gusF_rg _)
  | n + 12 => exact or_v1 (pasF_rg _)
theorem exL_v : ∀ (cs : List (Nat × List Nat)) (σ : Sg) (i : Nat), ∃ v, v < 10 ∧ (exL cs σ i).2.2 = nI v
  | [], σ, i => ⟨0, by decide, rfl⟩
  | c :: cs, σ, i => by
    by_cases h0 : xFL σ c = 0
    · rw [show exL (c :: cs) σ i = exL cs (xDL σ c) (i + 1) from if_pos h0]
      exact exL_v cs _ _
    · rw [show exL (c :: cs) σ i = (σ, i, xFL σ c) from if_neg h0]
      exact xF_rg
section R4
variable {K : Kt} {nc nt no B : Nat}
theorem Rest.rbad (h : Rest K B) (hc : Cur K nc nt no B) {n e : Nat} (he : e ≤ 60) {kd pm N1 : Nat → Int32} {s1 : Int32} : Sim (kMd (kSc (rnK K n e kd pm) 1 (nI e)) (setS (setS (setS (rdT (T0 K.2.2.2.2.1) N1 e s1) 7 (nI e)) 5 (nI 0)) 0 (nI 1)) (wOf (K.2.1 0) nc nt no)) B := by
  obtain ⟨h1, ⟨nx, kp, f, g1, g2, g3⟩, h3, h4, h5, ⟨e1, e2, e3, e4⟩⟩ := h
  exact ⟨nc, nt, no, ⟨hc.1, rfl⟩, h1, ⟨nx, kp, f, g1, g2, g3⟩, h3, ⟨rfl, Nat.zero_le _, fun i hi => absurd hi (Nat.not_lt_zero i), fun i hi => absurd hi (Nat.not_lt_zero i)⟩, h5, ⟨rfl, e2, Or.inr ⟨e, by omega, rfl⟩, e4⟩⟩
theorem Rest.rfail (h : Rest K B) (hc : Cur K nc nt no B) {n e i v : Nat} (hi : i ≤ 60) (hv : v < 10) {σ2 : Sg} (hn2 : Nar σ2.1) {kd pm N3 : Nat → Int32} {a3 : Nat} {s3 : Int32} : Sim (kMd (kSc (kSc (kSs (kSs (kSs (rnK K n e kd pm) 1 (copS (K.2.1 1) (K.2.1 0) nc nt no)) 0 σ2.1) 0 (copS σ2.1 (copS (K.2.1 1) (K.2.1 0) nc nt no) nc nt no)) 2 (nI i)) 3 (nI v)) (setS (setS (setS (setS (rdT (dnT (copT1 (T0 K.2.2.2.2.1) (wOf (K.2.1 0) nc nt no)) i) N3 a3 s3) 5 (nI 0)) 8 (nI i)) 9 (nI v)) 0 (nI 2)) (wOf (K.2.1 0) nc nt no)) B := by
  obtain ⟨h1, ⟨nx, kp, f, g1, g2, g3⟩, h3, h4, h5, ⟨e1, e2, e3, e4⟩⟩ := h
  have hok1 := hc.1.cop (h1 1 (by decide))
  have hok2 := hok1.cop hn2
  refine ⟨nc, nt, no, ⟨hok2, (w_cop.trans w_cop).symm⟩, ?_, ⟨nx, kp, f, g1, g2, fun j hj => ?_⟩, h3, ⟨rfl, Nat.zero_le _, fun i hi => absurd hi (Nat.not_lt_zero i), fun i hi => absurd hi (Nat.not_lt_zero i)⟩, h5, ⟨e1, rfl, e3, Or.inr ⟨i, v, by omega, rfl, hv, rfl, rfl⟩⟩⟩
  · exact Nar.st (Nar.st (Nar.st h1 hok1.2.1) hn2) hok2.2.1
  · show Cp (if 3 + (nx + 8 - kp + j) % 8 = 0 then _ else if 3 + (nx + 8 - kp + j) % 8 = 0 then _ else if 3 + (nx + 8 - kp + j) % 8 = 1 then _ else K.2.1 (3 + (nx + 8 - kp + j) % 8)) _ _
    rw [if_neg (by omega), if_neg (by omega), if_neg (by omega)]
    exact g3 j hj
theorem Rest.rok {nx kp f B2 : Nat} (h : Rest K B) (hB : B ≤ B2) (hc : Cur K nc nt no B) (hr : RgC K nx kp) (hrh : RgH K.2.2.2.2.1 f kp) (hrs : RgS nx kp f K.2.1 (K.2.2.2.2.1.2 2) B) {n e i : Nat} {σ2 : Sg} (hok2 : OkS σ2 B2) {kd pm N3 : Nat → Int32} {a3 : Nat} {s3 : Int32} (lo : Nat → Int64) : Sim (kMd (kLo (keepK (kSs (kSs (rnK K n e kd pm) 1 (copS (K.2.1 1) (K.2.1 0) nc nt no)) 0 σ2.1) 1 nx kp nc nt no) lo) (keepT (setS (rdT (dnT (copT1 (T0 K.2.2.2.2.1) (wOf (K.2.1 0) nc nt no)) i) N3 a3 s3) 5 (nI 0)) f kp) (wSg σ2)) B2 := by
  obtain ⟨h1, -, h3, h4, h5, h6⟩ := h
  obtain ⟨r1, r2, r3, r4⟩ := id hr
  obtain ⟨r5, r6, r7, r8⟩ := id hrh
  have hok1 := hc.1.cop (h1 1 (by decide))
  have hcp : Nar (copS (K.2.1 (3 + nx)) (copS (K.2.1 1) (K.2.1 0) nc nt no) nc nt no) := copS_nar (h1 _ (by omega)) hok1.2.1
  obtain ⟨s2, hs2⟩ : ∃ s2, s2 = (keepK (kSs (kSs (rnK K n e kd pm) 1 (copS (K.2.1 1) (K.2.1 0) nc nt no)) 0 σ2.1) 1 nx kp nc nt no).2.1 := ⟨_, rfl⟩
  have hst : ∀ j, s2 j = if j = 3 + nx then copS (K.2.1 (3 + nx)) (copS (K.2.1 1) (K.2.1 0) nc nt no) nc nt no else if j = 0 then σ2.1 else if j = 1 then copS (K.2.1 1) (K.2.1 0) nc nt no else K.2.1 j := by
    intro j
    rw [hs2]
    show (if j = 3 + nx then copS (if 3 + nx = 0 then σ2.1 else if 3 + nx = 1 then copS (K.2.1 1) (K.2.1 0) nc nt no else K.2.1 (3 + nx)) (copS (K.2.1 1) (K.2.1 0) nc nt no) nc nt no else if j = 0 then σ2.1 else if j = 1 then copS (K.2.1 1) (K.2.1 0) nc nt no else K.2.1 j) = _
    rw [if_neg (show ¬ 3 + nx = 0 by omega), if_neg (show ¬ 3 + nx = 1 by omega)]
  have g0 : s2 0 = σ2.1 := by rw [hst, if_neg (by omega), if_pos rfl]
  refine ⟨σ2.2.1, σ2.2.2.1, σ2.2.2.2, ⟨?_, ?_⟩, ?_, ⟨(nx + 1) % 8, ccN kp + 1, fcN f kp, ⟨rfl, ?_, by omega, ?_⟩, ⟨rfl, rfl, ?_, ?_⟩, ?_⟩, (show Sav _ B from ?_).mono hB, ⟨rfl, Nat.zero_le _, fun i hi => absurd hi (Nat.not_lt_zero i), fun i hi => absurd hi (Nat.not_lt_zero i)⟩, h5, h6⟩
  · show Ok ((keepK (kSs (kSs (rnK K n e kd pm) 1 (copS (K.2.1 1) (K.2.1 0) nc nt no)) 0 σ2.1) 1 nx kp nc nt no).2.1 0) _ _ _ _
    rw [← hs2, g0]
    exact hok2
  · show wSg σ2 = wOf ((keepK (kSs (kSs (rnK K n e kd pm) 1 (copS (K.2.1 1) (K.2.1 0) nc nt no)) 0 σ2.1) 1 nx kp nc nt no).2.1 0) _ _ _
    rw [← hs2, g0]
  · show ∀ i, i < 11 → Nar ((keepK (kSs (kSs (rnK K n e kd pm) 1 (copS (K.2.1 1) (K.2.1 0) nc nt no)) 0 σ2.1) 1 nx kp nc nt no).2.1 i)
    rw [← hs2]
    intro i hi
    rw [hst]
    split
    · exact hcp
    · split
      · exact hok2.2.1
      · split
        · exact hok1.2.1
        · exact h1 i hi
  · show nI (if 8 < kp + 1 then 8 else kp + 1) = nI (ccN kp + 1)
    rw [kp_cc r4]
  · unfold ccN
    split <;> omega
  · unfold fcN
    split <;> omega
  · unfold ccN
    split <;> omega
  · refine RgS.mono (B := B) ?_ hB
    show RgS _ _ _ (keepK (kSs (kSs (rnK K n e kd pm) 1 (copS (K.2.1 1) (K.2.1 0) nc nt no)) 0 σ2.1) 1 nx kp nc nt no).2.1 _ _
    rw [← hs2]
    refine RgS.keep r3 r4 r7 hrs (fun j hj hne => ?_) ?_
    · rw [hst, if_neg (by omega), if_neg (by omega), if_neg (by omega)]
    · rw [hst, if_pos rfl]
      exact Cp.cop hok1 (h1 _ (by omega)) (fun i hi => (itU_lt hi).trans (by rw [w_cop]))
  · refine ⟨h3.1, fun h0 => ?_⟩
    show Cp ((keepK (kSs (kSs (rnK K n e kd pm) 1 (copS (K.2.1 1) (K.2.1 0) nc nt no)) 0 σ2.1) 1 nx kp nc nt no).2.1 2) _ _
    rw [← hs2, hst, if_neg (by omega), if_neg (by decide), if_neg (by decide)]
    exact h3.2 h0
end R4

set_option maxRecDepth 100000 in
set_option maxHeartbeats 4000000 in
theorem pr_run {E : Ev} {b : Nat → Nat} {K : Kt} {M : Hp} {B : Nat} (hb : Lay E 162 b) (hW : Wd E b K M) (hS : Sim K B) (hB : B + 200000 < 2 ^ 26) : PairI E b g0 mL_run mX5_run [.ref (b 0), .ref (b 160)] [.ref (b 151)] M B := by
  obtain ⟨nc, nt, no, hcur, hR⟩ := id hS
  obtain ⟨hok, hw⟩ := id hcur
  obtain ⟨hwf, hn, -, -, hro, -, hse, -, hch⟩ := id hok
  obtain ⟨-, hnc6, -, hnt8, -, hno8⟩ := id hwf
  obtain ⟨-, ⟨nx, kp, fq, hrc, hrh, hrs⟩, -⟩ := id hR
  have hbM := hb.bM
  obtain ⟨-, -, hSv, hTx, hLn, hEr⟩ := id hR
  have hl60 := hTx.2.1
  have hat := pAll_at (l := (K.2.2.2.1 0)) 60 0 (Nat.zero_le _)
  have hlen := pAll_len (l := (K.2.2.2.1 0)) 60 0
  rcases Bool.eq_false_or_eq_true (pAll (K.2.2.2.1 0) 60 0).1 with hp | hp
  · by_cases hf : (exL (pAll (K.2.2.2.1 0) 60 0).2.2 ((K.2.1 0), nc, nt, no) 0).2.2 = 0
    · refine ⟨0, _, by decide, wl_run_ok hb hW (r := nI (exL (pAll (K.2.2.2.1 0) 60 0).2.2 ((K.2.1 0), nc, nt, no) 0).2.1) (R := fun K1 => ∃ kd pm, K1 = keepK (kSs (kSs (rnK K (pAll (K.2.2.2.1 0) 60 0).2.2.length (pAll (K.2.2.2.1 0) 60 0).2.1 kd pm) 1 (copS (K.2.1 1) (K.2.1 0) nc nt no)) 0 (exL (pAll (K.2.2.2.1 0) 60 0).2.2 ((K.2.1 0), nc, nt, no) 0).1.1) 1 nx kp nc nt no) (by decide) (by decide) ((ck_run_ok hb hW hl60 hok (by omega) hp (hR.1 1 (by decide)) hrc hf).imp ?_), ?_⟩
      · rintro v M1 ⟨rfl, kd, pm, h⟩
        exact ⟨rfl, _, h, kd, pm, rfl⟩
      · rintro K1 M1 ⟨K3, lo, ⟨kd, pm, rfl⟩, rfl, hlo⟩ hW1
        have hmo := mr_run_ok (b := bM b) (T := K.2.2.2.2.1) (σ := ((K.2.1 0), nc, nt, no)) (M := M1) hbM hTx hok (by omega) hp hrh hf
        refine (Ct.wr (hW1.md hb) (by rw [show (kLo (keepK (kSs (kSs (rnK K (pAll (K.2.2.2.1 0) 60 0).2.2.length (pAll (K.2.2.2.1 0) 60 0).2.1 kd pm) 1 (copS (K.2.1 1) (K.2.1 0) nc nt no)) 0 (exL (pAll (K.2.2.2.1 0) 60 0).2.2 ((K.2.1 0), nc, nt, no) 0).1.1) 1 nx kp nc nt no) lo).2.2.2.2.2.1 = wSg ((K.2.1 0), nc, nt, no) from hw]; exact hmo)).imp ?_
        rintro v M2 ⟨rfl, N3, a3, s3, rfl⟩
        exact ⟨_, _, rfl, hW1.mdw hb _ _, rfl, fun _ => hlo, hR.rok (by omega) hcur hrc hrh hrs (Ok.mono (exL_ok (pAll (K.2.2.2.1 0) 60 0).2.2 ((K.2.1 0), nc, nt, no) 0 B hok (by omega)) (by omega)) lo⟩
    · obtain ⟨v, hv, hve⟩ := exL_v (pAll (K.2.2.2.1 0) 60 0).2.2 ((K.2.1 0), nc, nt, no) 0
      refine ⟨2, _, by decide, wl_run_2 hb hW (R := fun K1 => ∃ kd pm, K1 = kSc (kSc (kSs (kSs (kSs (rnK K (pAll (K.2.2.2.1 0) 60 0).2.2.length (pAll (K.2.2.2.1 0) 60 0).2.1 kd pm) 1 (copS (K.2.1 1) (K.2.1 0) nc nt no)) 0 (exL (pAll (K.2.2.2.1 0) 60 0).2.2 ((K.2.1 0), nc, nt, no) 0).1.1) 0 (copS (exL (pAll (K.2.2.2.1 0) 60 0).2.2 ((K.2.1 0), nc, nt, no) 0).1.1 (copS (K.2.1 1) (K.2.1 0) nc nt no) nc nt no)) 2 (nI (exL (pAll (K.2.2.2.1 0) 60 0).2.2 ((K.2.1 0), nc, nt, no) 0).2.1)) 3 (exL (pAll (K.2.2.2.1 0) 60 0).2.2 ((K.2.1 0), nc, nt, no) 0).2.2) (by decide) (by decide) ((ck_run_fail hb hW hl60 hok (by omega) hp (hR.1 1 (by decide)) hf).imp (fun _ _ z => z) ?_), ?_⟩
      · rintro y M1 ⟨rfl, kd, pm, h⟩
        exact ⟨rfl, _, h, kd, pm, rfl⟩
      · rintro K1 M1 ⟨kd, pm, rfl⟩ hW1
        have hmo := mr_run_fail (b := bM b) (T := K.2.2.2.2.1) (σ := ((K.2.1 0), nc, nt, no)) (M := M1) hbM hTx hok (by omega) hp hf
        refine (Ct.wr (hW1.md hb) (by rw [show (kSc (kSc (kSs (kSs (kSs (rnK K (pAll (K.2.2.2.1 0) 60 0).2.2.length (pAll (K.2.2.2.1 0) 60 0).2.1 kd pm) 1 (copS (K.2.1 1) (K.2.1 0) nc nt no)) 0 (exL (pAll (K.2.2.2.1 0) 60 0).2.2 ((K.2.1 0), nc, nt, no) 0).1.1) 0 (copS (exL (pAll (K.2.2.2.1 0) 60 0).2.2 ((K.2.1 0), nc, nt, no) 0).1.1 (copS (K.2.1 1) (K.2.1 0) nc nt no) nc nt no)) 2 (nI (exL (pAll (K.2.2.2.1 0) 60 0).2.2 ((K.2.1 0), nc, nt, no) 0).2.1)) 3 (exL (pAll (K.2.2.2.1 0) 60 0).2.2 ((K.2.1 0), nc, nt, no) 0).2.2).2.2.2.2.2.1 = wSg ((K.2.1 0), nc, nt, no) from hw]; exact hmo)).imp ?_
        rintro y M2 ⟨rfl, N3, a3, s3, rfl⟩
        have hs := hR.rfail (n := (pAll (K.2.2.2.1 0) 60 0).2.2.length) (e := (pAll (K.2.2.2.1 0) 60 0).2.1) (i := (exL (pAll (K.2.2.2.1 0) 60 0).2.2 ((K.2.1 0), nc, nt, no) 0).2.1) (v := v) (σ2 := (exL (pAll (K.2.2.2.1 0) 60 0).2.2 ((K.2.1 0), nc, nt, no) 0).1) (kd := kd) (pm := pm) (N3 := N3) (a3 := a3) (s3 := s3) hcur (by have := exL_le (pAll (K.2.2.2.1 0) 60 0).2.2 ((K.2.1 0), nc, nt, no) 0; omega) hv (exL_ok (pAll (K.2.2.2.1 0) 60 0).2.2 ((K.2.1 0), nc, nt, no) 0 B hok (by omega)).2.1
        rw [← hve] at hs
        obtain ⟨a1, a2, a4, h1, h2⟩ := hs
        exact ⟨_, _, rfl, hW1.mdw hb _ _, rfl, fun h => absurd h (by decide), a1, a2, a4, h1.mono (by omega), h2.mono (by omega)⟩
  · refine ⟨1, _, by decide, wl_run_1 hb hW (R := fun K1 => ∃ kd pm, K1 = kSc (rnK K (pAll (K.2.2.2.1 0) 60 0).2.2.length (pAll (K.2.2.2.1 0) 60 0).2.1 kd pm) 1 (nI (pAll (K.2.2.2.1 0) 60 0).2.1)) (by decide) (by decide) ((ck_run_bad hb hW hl60 hp).imp (fun _ _ z => z) ?_), ?_⟩
    · rintro y M1 ⟨rfl, kd, pm, h⟩
      exact ⟨rfl, _, h, kd, pm, rfl⟩
    · rintro K1 M1 ⟨kd, pm, rfl⟩ hW1
      have hmo := mr_run_bad (b := bM b) (T := K.2.2.2.2.1) (σ := ((K.2.1 0), nc, nt, no)) (M := M1) hbM hTx hp
      refine (Ct.wr (hW1.md hb) (by rw [show (kSc (rnK K (pAll (K.2.2.2.1 0) 60 0).2.2.length (pAll (K.2.2.2.1 0) 60 0).2.1 kd pm) 1 (nI (pAll (K.2.2.2.1 0) 60 0).2.1)).2.2.2.2.2.1 = wSg ((K.2.1 0), nc, nt, no) from hw]; exact hmo)).imp ?_
      rintro y M2 ⟨rfl, N1, s1, rfl⟩
      obtain ⟨a1, a2, a4, h1, h2⟩ := hR.rbad (n := (pAll (K.2.2.2.1 0) 60 0).2.2.length) (e := (pAll (K.2.2.2.1 0) 60 0).2.1) (kd := kd) (pm := pm) (N1 := N1) (s1 := s1) hcur (by omega)
      exact ⟨_, _, rfl, hW1.mdw hb _ _, rfl, fun h => absurd h (by decide), a1, a2, a4, h1.mono (by omega), h2.mono (by omega)⟩

