def PairC (E : Ev) (b : Nat → Nat) (μC μM : Mth) (M : Hp) (B : Nat) : Prop := ∃ (r : Int32) (R : Kt → Prop), Ct E μC [.ref (b 0)] M (RsC E b (.int r) R) 0 0 ∧ ∀ K1 M1, R K1 → Wd E b K1 M1 → Ct E μM [.ref (b 151)] M1 (fun v M2 => v = some (.int r) ∧ ∃ K2, Wd E b K2 M2 ∧ Sim K2 (B + 60000)) 0 0
def PairD (E : Ev) (b : Nat → Nat) (g : UInt64 → Value) (f : UInt64 → UInt64) (μW μM : Mth) (M : Hp) (B : Nat) : Prop := ∃ (k : Nat) (R : Kt → Prop), k < 10 ∧ CtH E μW [.ref (b 0), .ref (b 161)] M (RsC E b (.int (nI k)) R) 23 3266 ∧ ∀ K1 M1, R K1 → Wd E b K1 M1 → Ct E μM [.ref (b 151)] M1 (fun v M2 => ∃ r K2, v = some (g r) ∧ Wd E b K2 M2 ∧ K2.2.2.2.2.1.1 0 = nI k ∧ (k = 0 → K2.2.2.2.2.2.2.2 0 = f r ∧ Jvm.FP.Core.dIsNaN (f r) = false) ∧ Sim K2 (B + 60000)) 0 0
section R3
variable {E : Ev} {b : Nat → Nat} {K : Kt} {M : Hp} {nc nt no B : Nat}
theorem PairC.rd (hb : Lay E 162 b) {K1 : Kt} {r : Int32} {μC μM : Mth} (hc : Ct E μC [.ref (b 0)] M (RsC E b (.int r) (fun K2 => K2 = K1)) 0 0) {w0 w2 : Nat → Int32} {T2 : St} (hw : K1.2.2.2.2.2.1 = w0) (hm : ∀ M1, Ct E μM [.ref (b 151)] (MdW E (bM b) K1.2.2.2.2.1 w0 M1) (eqR (some (.int r)) (MdW E (bM b) T2 w2 M1)) 0 0) (hs : Sim (kMd K1 T2 w2) (B + 60000)) : PairC E b μC μM M B := by
  refine ⟨r, _, hc, ?_⟩
  rintro K2 M1 rfl hW1
  refine (Ct.md hb hW1 hw (hm M1)).imp ?_
  rintro v M2 ⟨rfl, hW2⟩
  exact ⟨rfl, _, hW2, hs⟩
theorem w_row {S : St} {u w : Nat → Int32} (hu : ∀ i, i < 91 → u i = wOf S nc nt no i) (hw : ∀ i, 91 ≤ i → w i = 0) : itU u w 91 = wOf S nc nt no := by
  funext i
  by_cases h : i < 91
  · rw [itU_lt h, hu i h]
  · rw [show itU u w 91 i = w i from if_neg h, hw i (by omega), w_h (by omega)]
theorem Nar.st {s : Nat → St} {j : Nat} {S2 : St} (h : ∀ i, i < 11 → Nar (s i)) (hn : Nar S2) : ∀ i, i < 11 → Nar (if i = j then S2 else s i) := by
  intro i hi
  split
  · exact hn
  · exact h i hi
theorem Rest.back {nx c f : Nat} (h : Rest K B) (hw : ∀ i, 91 ≤ i → K.2.2.2.2.2.1 i = 0) (hr : RgC K nx (c + 1)) (hrh : RgH K.2.2.2.2.1 f (c + 1)) (hrs : RgS nx (c + 1) f K.2.1 (K.2.2.2.2.1.2 2) B) (hok : Ok (K.2.1 (3 + (nx + 7) % 8)) nc nt no B) (hu : ∀ i, i < 91 → K.2.2.2.2.1.2 2 (91 * ((f + c) % 8) + i) = wOf (K.2.1 (3 + (nx + 7) % 8)) nc nt no i) (lo : Nat → Int64) : Sim (kMd (kLo (backK K nx c nc nt no) lo) (setS (setS K.2.2.2.2.1 0 (nI 0)) 1 (nI c)) (itU (fun i => K.2.2.2.2.1.2 2 (91 * ((f + c) % 8) + i)) K.2.2.2.2.2.1 91)) B := by
  obtain ⟨h1, -, h3, h4, h5, h6⟩ := h
  obtain ⟨r1, r2, r3, r4⟩ := id hr
  obtain ⟨r5, r6, r7, r8⟩ := id hrh
  have hok2 := hok.cop (h1 0 (by decide))
  refine ⟨nc, nt, no, ⟨hok2, ?_⟩, Nar.st h1 hok2.2.1, ⟨(nx + 7) % 8, c, f, ⟨rfl, rfl, by omega, by omega⟩, ⟨r5, rfl, r7, by omega⟩, ?_⟩, h3, h4, h5, h6⟩
  · exact (w_row hu hw).trans w_cop.symm
  · exact hrs.back r3 (by omega) (fun j hj => if_neg (by omega))
theorem Rest.save (h : Rest K B) (hc : Cur K nc nt no B) : Sim (kMd (kSc (kSs K 2 (copS (K.2.1 2) (K.2.1 0) nc nt no)) 0 (nI 1)) (setS (setA (setS K.2.2.2.2.1 0 (nI 0)) 3 (itU (wOf (K.2.1 0) nc nt no) (K.2.2.2.2.1.2 3) 91)) 3 (nI 1)) (wOf (K.2.1 0) nc nt no)) B := by
  obtain ⟨h1, ⟨nx, kp, f, g1, g2, g3⟩, h3, h4, h5, h6⟩ := h
  refine ⟨nc, nt, no, ⟨hc.1, rfl⟩, Nar.st h1 (copS_nar (h1 2 (by decide)) hc.1.2.1), ⟨nx, kp, f, g1, g2, fun j hj => ?_⟩, ⟨rfl, fun _ => ?_⟩, h4, h5, h6⟩
  · rw [show (kMd (kSc (kSs K 2 (copS (K.2.1 2) (K.2.1 0) nc nt no)) 0 (nI 1)) (setS (setA (setS K.2.2.2.2.1 0 (nI 0)) 3 (itU (wOf (K.2.1 0) nc nt no) (K.2.2.2.2.1.2 3) 91)) 3 (nI 1)) (wOf (K.2.1 0) nc nt no)).2.1 (3 + (nx + 8 - kp + j) % 8) = K.2.1 (3 + (nx + 8 - kp + j) % 8) from if_neg (by omega)]
    exact g3 j hj
  · exact Cp.cop hc.1 (h1 2 (by decide)) (fun i hi => itU_lt hi)
theorem Rest.restore (h : Rest K B) (hw : ∀ i, 91 ≤ i → K.2.2.2.2.2.1 i = 0) (hok : Ok (K.2.1 2) nc nt no B) (hu : ∀ i, i < 91 → K.2.2.2.2.1.2 3 i = wOf (K.2.1 2) nc nt no i) (lo : Nat → Int64) : Sim (kMd (kLo (kSc (kSs K 0 (copS (K.2.1 0) (K.2.1 2) nc nt no)) 5 (nI 0)) lo) (setS (setS (setS K.2.2.2.2.1 0 (nI 0)) 1 (nI 0)) 2 (nI 0)) (itU (K.2.2.2.2.1.2 3) K.2.2.2.2.2.1 91)) B := by
  obtain ⟨h1, ⟨nx, kp, f, ⟨r1, r2, r3, r4⟩, g2, g3⟩, h3, h4, h5, h6⟩ := h
  have hok2 := hok.cop (h1 0 (by decide))
  exact ⟨nc, nt, no, ⟨hok2, (w_row hu hw).trans w_cop.symm⟩, Nar.st h1 hok2.2.1, ⟨nx, 0, 0, ⟨r1, rfl, r3, by omega⟩, ⟨rfl, rfl, by omega, by omega⟩, fun j hj => absurd hj (Nat.not_lt_zero j)⟩, h3, h4, h5, h6⟩
end R3

set_option maxRecDepth 100000 in
set_option maxHeartbeats 4000000 in
theorem pr_undo {E : Ev} {b : Nat → Nat} {K : Kt} {M : Hp} {B : Nat} (hb : Lay E 162 b) (hW : Wd E b K M) (hS : Sim K B) (hB : B + 200000 < 2 ^ 26) : PairI E b g0 mL_undo mX5_undo [.ref (b 0), .ref (b 160)] [.ref (b 151)] M B := by
  obtain ⟨nc, nt, no, hcur, hR⟩ := id hS
  obtain ⟨hok, hw⟩ := id hcur
  obtain ⟨hwf, hn, -, -, hro, -, hse, -, hch⟩ := id hok
  obtain ⟨-, hnc6, -, hnt8, -, hno8⟩ := id hwf
  obtain ⟨-, ⟨nx, kp, fq, hrc, hrh, hrs⟩, -⟩ := id hR
  have hbM := hb.bM
  rcases kp with _ | c
  · exact PairI.bad hb hS (by decide) (by decide) (wl_undo_1 hb hW (by decide) (by decide) ((cf_undo_1 hb hW hrc.2.1).imp (fun _ _ z => z) (PXe.th hW))) hw (fun M1 => mo_undo_bad hbM hrh.2.1)
  · have h8 : c + 1 ≤ 8 := hrc.2.2.2
    obtain ⟨nc2, nt2, no2, hok2, hu⟩ := hrs.top hrc.2.2.1 h8
    exact PairI.ok hb (wl_undo_ok hb hW (by decide) (by decide) ((cf_undo_ok hb hW hrc hok2.1 hok2.2.1).imp WR.rs)) rfl (fun M1 => mo_undo_ok hbM hrh) rfl (fun lo => (fun ⟨a1, a2, a3, h1, h2⟩ => ⟨a1, a2, a3, h1.mono (by omega), h2.mono (by omega)⟩) (hR.back (fun i hi => by rw [hw]; exact w_h hi) hrc hrh hrs hok2 hu lo))

set_option maxRecDepth 100000 in
set_option maxHeartbeats 4000000 in
theorem pr_restore {E : Ev} {b : Nat → Nat} {K : Kt} {M : Hp} {B : Nat} (hb : Lay E 162 b) (hW : Wd E b K M) (hS : Sim K B) (hB : B + 200000 < 2 ^ 26) : PairI E b g0 mL_restore mX5_restore [.ref (b 0), .ref (b 160)] [.ref (b 151)] M B := by
  obtain ⟨nc, nt, no, hcur, hR⟩ := id hS
  obtain ⟨hok, hw⟩ := id hcur
  obtain ⟨hwf, hn, -, -, hro, -, hse, -, hch⟩ := id hok
  obtain ⟨-, hnc6, -, hnt8, -, hno8⟩ := id hwf
  obtain ⟨-, ⟨nx, kp, fq, hrc, hrh, hrs⟩, -⟩ := id hR
  have hbM := hb.bM
  obtain ⟨hs1, hs2⟩ := hR.2.2.1
  by_cases hk : K.1 0 = 0
  · exact PairI.bad hb hS (by decide) (by decide) (wl_restore_1 hb hW (by decide) (by decide) ((cf_restore_1 hb hW hk).imp (fun _ _ z => z) (PXe.th hW))) hw (fun M1 => mo_restore_bad hbM (hs1.symm.trans hk))
  · obtain ⟨nc2, nt2, no2, hok2, hu⟩ := hs2 hk
    have hm : ∀ M1, _ := fun M1 => mo_restore_ok (b := bM b) (T := K.2.2.2.2.1) (w := K.2.2.2.2.2.1) (M := M1) hbM (fun z => hk (hs1.trans z))
    rw [show itU (K.2.2.2.2.1.2 3) K.2.2.2.2.2.1 91 2 = (copS (K.2.1 0) (K.2.1 2) nc2 nt2 no2).1 7 from (itU_lt (by decide)).trans ((hu 2 (by decide)).trans (w_s (by decide)))] at hm
    exact PairI.ok hb (wl_restore_ok hb hW (by decide) (by decide) ((cf_restore_ok hb hW hk hok2.1 hok2.2.1).imp WR.rs)) rfl hm rfl (fun lo => (fun ⟨a1, a2, a3, h1, h2⟩ => ⟨a1, a2, a3, h1.mono (by omega), h2.mono (by omega)⟩) (hR.restore (fun i hi => by rw [hw]; exact w_h hi) hok2 hu lo))

set_option maxRecDepth 100000 in
set_option maxHeartbeats 4000000 in
theorem pr_committeeCount {E : Ev} {b : Nat → Nat} {K : Kt} {M : Hp} {B : Nat} (hb : Lay E 162 b) (hW : Wd E b K M) (hS : Sim K B) (hB : B + 200000 < 2 ^ 26) : PairC E b mX4_committeeCount mX5_committeeCount M B := by
  obtain ⟨nc, nt, no, hcur, hR⟩ := id hS
  obtain ⟨hok, hw⟩ := id hcur
  obtain ⟨hwf, hn, -, -, hro, -, hse, -, hch⟩ := id hok
  obtain ⟨-, hnc6, -, hnt8, -, hno8⟩ := id hwf
  obtain ⟨-, ⟨nx, kp, fq, hrc, hrh, hrs⟩, -⟩ := id hR
  have hbM := hb.bM
  exact PairC.rd hb ((cr_committeeCount hb hW).imp (eqR.rs hW)) hw (fun M1 => mr_committeeCount hbM) ⟨nc, nt, no, ⟨hok.mono (by omega), rfl⟩, (hR.th0 _ _).mono (by omega)⟩

set_option maxRecDepth 100000 in
set_option maxHeartbeats 4000000 in
theorem pr_tailCount {E : Ev} {b : Nat → Nat} {K : Kt} {M : Hp} {B : Nat} (hb : Lay E 162 b) (hW : Wd E b K M) (hS : Sim K B) (hB : B + 200000 < 2 ^ 26) : PairC E b mX4_tailCount mX5_tailCount M B := by
  obtain ⟨nc, nt, no, hcur, hR⟩ := id hS
  obtain ⟨hok, hw⟩ := id hcur
  obtain ⟨hwf, hn, -, -, hro, -, hse, -, hch⟩ := id hok
  obtain ⟨-, hnc6, -, hnt8, -, hno8⟩ := id hwf
  obtain ⟨-, ⟨nx, kp, fq, hrc, hrh, hrs⟩, -⟩ := id hR
  have hbM := hb.bM
  exact PairC.rd hb ((cr_tailCount hb hW).imp (eqR.rs hW)) hw (fun M1 => mr_tailCount hbM) ⟨nc, nt, no, ⟨hok.mono (by omega), rfl⟩, (hR.th0 _ _).mono (by omega)⟩

set_option maxRecDepth 100000 in
set_option maxHeartbeats 4000000 in
theorem pr_openMotions {E : Ev} {b : Nat → Nat} {K : Kt} {M : Hp} {B : Nat} (hb : Lay E 162 b) (hW : Wd E b K M) (hS : Sim K B) (hB : B + 200000 < 2 ^ 26) : PairC E b mX4_openMotions mX5_openMotions M B := by
  obtain ⟨nc, nt, no, hcur, hR⟩ := id hS
  obtain ⟨hok, hw⟩ := id hcur
  obtain ⟨hwf, hn, -, -, hro, -, hse, -, hch⟩ := id hok
  obtain ⟨-, hnc6, -, hnt8, -, hno8⟩ := id hwf
  obtain ⟨-, ⟨nx, kp, fq, hrc, hrh, hrs⟩, -⟩ := id hR
  have hbM := hb.bM
  exact PairC.rd hb ((cr_openMotions hb hW).imp (eqR.rs hW)) hw (fun M1 => mr_openMotions hbM) ⟨nc, nt, no, ⟨hok.mono (by omega), rfl⟩, (hR.th0 _ _).mono (by omega)⟩

set_option maxRecDepth 100000 in
set_option maxHeartbeats 4000000 in
theorem pr_hour {E : Ev} {b : Nat → Nat} {K : Kt} {M : Hp} {B : Nat} (hb : Lay E 162 b) (hW : Wd E b K M) (hS : Sim K B) (hB : B + 200000 < 2 ^ 26) : PairC E b mX4_hour mX5_hour M B := by
  obtain ⟨nc, nt, no, hcur, hR⟩ := id hS
  obtain ⟨hok, hw⟩ := id hcur
  obtain ⟨hwf, hn, -, -, hro, -, hse, -, hch⟩ := id hok
  obtain ⟨-, hnc6, -, hnt8, -, hno8⟩ := id hwf
  obtain ⟨-, ⟨nx, kp, fq, hrc, hrh, hrs⟩, -⟩ := id hR
  have hbM := hb.bM
  exact PairC.rd hb ((cr_hour hb hW).imp (eqR.rs hW)) hw (fun M1 => mr_hour hbM) ⟨nc, nt, no, ⟨hok.mono (by omega), rfl⟩, (hR.th0 _ _).mono (by omega)⟩

set_option maxRecDepth 100000 in
set_option maxHeartbeats 4000000 in
theorem pr_carriedCount {E : Ev} {b : Nat → Nat} {K : Kt} {M : Hp} {B : Nat} (hb : Lay E 162 b) (hW : Wd E b K M) (hS : Sim K B) (hB : B + 200000 < 2 ^ 26) : PairC E b mX4_carriedCount mX5_carriedCount M B := by
  obtain ⟨nc, nt, no, hcur, hR⟩ := id hS
  obtain ⟨hok, hw⟩ := id hcur
  obtain ⟨hwf, hn, -, -, hro, -, hse, -, hch⟩ := id hok
  obtain ⟨-, hnc6, -, hnt8, -, hno8⟩ := id hwf
  obtain ⟨-, ⟨nx, kp, fq, hrc, hrh, hrs⟩, -⟩ := id hR
  have hbM := hb.bM
  exact PairC.rd hb ((cr_carriedCount hb hW).imp (eqR.rs hW)) hw (fun M1 => mr_carriedCount hbM) ⟨nc, nt, no, ⟨hok.mono (by omega), rfl⟩, (hR.th0 _ _).mono (by omega)⟩

set_option maxRecDepth 100000 in
set_option maxHeartbeats 4000000 in
theorem pr_lostCount {E : Ev} {b : Nat → Nat} {K : Kt} {M : Hp} {B : Nat} (hb : Lay E 162 b) (hW : Wd E b K M) (hS : Sim K B) (hB : B + 200000 < 2 ^ 26) : PairC E b mX4_lostCount mX5_lostCount M B := by
  obtain ⟨nc, nt, no, hcur, hR⟩ := id hS
  obtain ⟨hok, hw⟩ := id hcur
  obtain ⟨hwf, hn, -, -, hro, -, hse, -, hch⟩ := id hok
  obtain ⟨-, hnc6, -, hnt8, -, hno8⟩ := id hwf
  obtain ⟨-, ⟨nx, kp, fq, hrc, hrh, hrs⟩, -⟩ := id hR
  have hbM := hb.bM
  exact PairC.rd hb ((cr_lostCount hb hW).imp (eqR.rs hW)) hw (fun M1 => mr_lostCount hbM) ⟨nc, nt, no, ⟨hok.mono (by omega), rfl⟩, (hR.th0 _ _).mono (by omega)⟩

set_option maxRecDepth 100000 in
set_option maxHeartbeats 4000000 in
theorem pr_paidTotal {E : Ev} {b : Nat → Nat} {K : Kt} {M : Hp} {B : Nat} (hb : Lay E 162 b) (hW : Wd E b K M) (hS : Sim K B) (hB : B + 200000 < 2 ^ 26) : PairC E b mX4_paidTotal mX5_paidTotal M B := by
  obtain ⟨nc, nt, no, hcur, hR⟩ := id hS
  obtain ⟨hok, hw⟩ := id hcur
  obtain ⟨hwf, hn, -, -, hro, -, hse, -, hch⟩ := id hok
  obtain ⟨-, hnc6, -, hnt8, -, hno8⟩ := id hwf
  obtain ⟨-, ⟨nx, kp, fq, hrc, hrh, hrs⟩, -⟩ := id hR
  have hbM := hb.bM
  exact PairC.rd hb ((cr_paidTotal hb hW).imp (eqR.rs hW)) hw (fun M1 => mr_paidTotal hbM) ⟨nc, nt, no, ⟨hok.mono (by omega), rfl⟩, (hR.th0 _ _).mono (by omega)⟩

set_option maxRecDepth 100000 in
set_option maxHeartbeats 4000000 in
theorem pr_chargedTotal {E : Ev} {b : Nat → Nat} {K : Kt} {M : Hp} {B : Nat} (hb : Lay E 162 b) (hW : Wd E b K M) (hS : Sim K B) (hB : B + 200000 < 2 ^ 26) : PairC E b mX4_chargedTotal mX5_chargedTotal M B := by
  obtain ⟨nc, nt, no, hcur, hR⟩ := id hS
  obtain ⟨hok, hw⟩ := id hcur
  obtain ⟨hwf, hn, -, -, hro, -, hse, -, hch⟩ := id hok
  obtain ⟨-, hnc6, -, hnt8, -, hno8⟩ := id hwf
  obtain ⟨-, ⟨nx, kp, fq, hrc, hrh, hrs⟩, -⟩ := id hR
  have hbM := hb.bM
  exact PairC.rd hb ((cr_chargedTotal hb hW).imp (eqR.rs hW)) hw (fun M1 => mr_chargedTotal hbM) ⟨nc, nt, no, ⟨hok.mono (by omega), rfl⟩, (hR.th0 _ _).mono (by omega)⟩

set_option maxRecDepth 100000 in
set_option maxHeartbeats 4000000 in
theorem pr_save {E : Ev} {b : Nat → Nat} {K : Kt} {M : Hp} {B : Nat} (hb : Lay E 162 b) (hW : Wd E b K M) (hS : Sim K B) (hB : B + 200000 < 2 ^ 26) : PairC E b mX4_save mX5_save M B := by
  obtain ⟨nc, nt, no, hcur, hR⟩ := id hS
  obtain ⟨hok, hw⟩ := id hcur
  obtain ⟨hwf, hn, -, -, hro, -, hse, -, hch⟩ := id hok
  obtain ⟨-, hnc6, -, hnt8, -, hno8⟩ := id hwf
  obtain ⟨-, ⟨nx, kp, fq, hrc, hrh, hrs⟩, -⟩ := id hR
  have hbM := hb.bM
  have hm : ∀ M1, _ := fun M1 => mo_save (b := bM b) (T := K.2.2.2.2.1) (w := wOf (K.2.1 0) nc nt no) (M := M1) hbM
  rw [show wOf (K.2.1 0) nc nt no 2 = (K.2.1 0).1 7 from w_s (by decide)] at hm
  exact PairC.rd hb ((cf_save hb hW hwf hn).imp WR.rs) hw hm ((fun ⟨a1, a2, a3, h1, h2⟩ => ⟨a1, a2, a3, h1.mono (by omega), h2.mono (by omega)⟩) (hR.save hcur))

set_option maxRecDepth 100000 in
set_option maxHeartbeats 4000000 in
theorem pr_isConsistent {E : Ev} {b : Nat → Nat} {K : Kt} {M : Hp} {B : Nat} (hb : Lay E 162 b) (hW : Wd E b K M) (hS : Sim K B) (hB : B + 200000 < 2 ^ 26) : PairC E b mX4_isConsistent mX5_isConsistent M B := by
  obtain ⟨nc, nt, no, hcur, hR⟩ := id hS
  obtain ⟨hok, hw⟩ := id hcur
  obtain ⟨hwf, hn, -, -, hro, -, hse, -, hch⟩ := id hok
  obtain ⟨-, hnc6, -, hnt8, -, hno8⟩ := id hwf
  obtain ⟨-, ⟨nx, kp, fq, hrc, hrh, hrs⟩, -⟩ := id hR
  have hbM := hb.bM
  refine ⟨nI 1, fun K2 => ∃ S1, Nar S1 ∧ K2 = kSs K 1 S1, (cr_consistent hb hW hwf hn (hR.1 1 (by decide)) (fun j h S1 hS1 hj hh => hok.hag (by omega) hS1 hj hh) hro hch hok.hsu).imp ?_, ?_⟩
  · rintro v M1 ⟨rfl, S1, hn1, hW1⟩
    exact ⟨rfl, _, hW1, S1, hn1, rfl⟩
  · rintro K1 M1 ⟨S1, hn1, rfl⟩ hW1
    refine (Ct.md (K := kSs K 1 S1) hb hW1 hw (mr_consistent hbM hwf hn hro hch)).imp ?_
    rintro v M2 ⟨rfl, hW2⟩
    exact ⟨rfl, _, hW2, nc, nt, no, ⟨hok.mono (by omega), rfl⟩, ((hR.spare hn1).th0 _ _).mono (by omega)⟩

set_option maxRecDepth 100000 in
set_option maxHeartbeats 4000000 in
theorem pr_meanArrears {E : Ev} {b : Nat → Nat} {K : Kt} {M : Hp} {B : Nat} (hb : Lay E 162 b) (hW : Wd E b K M) (hS : Sim K B) (hB : B + 200000 < 2 ^ 26) : PairD E b Value.double id mL_meanArrears mX5_meanArrears M B := by
  obtain ⟨nc, nt, no, hcur, hR⟩ := id hS
  obtain ⟨hok, hw⟩ := id hcur
  obtain ⟨hwf, hn, -, -, hro, -, hse, -, hch⟩ := id hok
  obtain ⟨-, hnc6, -, hnt8, -, hno8⟩ := id hwf
  obtain ⟨-, ⟨nx, kp, fq, hrc, hrh, hrs⟩, -⟩ := id hR
  have hbM := hb.bM
  by_cases h0 : nc = 0
  · refine ⟨1, _, by decide, wl_meanArrears_1 hb hW (by decide) (by decide) ((cr_mean_1 hb hW hwf h0).imp (fun _ _ z => z) (PXe.th hW)), ?_⟩
    rintro K1 M1 rfl hW1
    refine (Ct.md hb hW1 hw (mr_mean_bad hbM hwf h0)).imp ?_
    rintro v M2 ⟨rfl, hW2⟩
    exact ⟨_, _, rfl, hW2, rfl, (fun h => by cases h), nc, nt, no, ⟨hok.mono (by omega), rfl⟩, (hR.th0 _ _).mono (by omega)⟩
  · have hpos : 0 < nc := by omega
    have hc9 := cr_mean_ok hb hW hwf hpos
    refine ⟨0, _, by decide, wl_meanArrears_ok hb hW (by decide) (by decide) (hc9.imp (eqR.rs hW)), ?_⟩
    rintro K1 M1 ⟨K3, lo, rfl, rfl, hlo⟩ hW1
    refine (Ct.md (K := kDo K3 lo) hb hW1 hw (mr_mean_ok hbM hwf hpos)).imp ?_
    rintro v M2 ⟨rfl, hW2⟩
    exact ⟨_, _, rfl, hW2, rfl, fun _ => ⟨hlo, dq_num (nI_nz0 hpos (by omega))⟩, nc, nt, no, ⟨hok.mono (by omega), rfl⟩, (hR.th2 lo _ _).mono (by omega)⟩

def PairF (E : Ev) (b : Nat → Nat) (μW μM : Mth) (M : Hp) (B : Nat) : Prop := ∃ (k : Nat) (R : Kt → Prop), k < 10 ∧ CtH E μW [.ref (b 0), .ref (b 161)] M (RsC E b (.int (nI k)) R) 23 3266 ∧ ∀ K1 M1, R K1 → Wd E b K1 M1 → Ct E μM [.ref (b 151)] M1 (fun v M2 => ∃ (r : UInt32) (K2 : Kt), v = some (.float r) ∧ Wd E b K2 M2 ∧ K2.2.2.2.2.1.1 0 = nI k ∧ (k = 0 → K2.2.2.2.2.2.2.2 0 = FP.f2d r ∧ Jvm.FP.Core.dIsNaN (FP.f2d r) = false) ∧ Sim K2 (B + 60000)) 0 0
set_option maxRecDepth 100000 in
set_option maxHeartbeats 4000000 in
theorem pr_rentedShare {E : Ev} {b : Nat → Nat} {K : Kt} {M : Hp} {B : Nat} (hb : Lay E 162 b) (hW : Wd E b K M) (hS : Sim K B) (hB : B + 200000 < 2 ^ 26) : PairF E b mL_rentedShare mX5_rentedShare M B := by
  obtain ⟨nc, nt, no, hcur, hR⟩ := id hS
  obtain ⟨hok, hw⟩ := id hcur
  obtain ⟨hwf, hn, -, -, hro, -, hse, -, hch⟩ := id hok
  obtain ⟨-, hnc6, -, hnt8, -, hno8⟩ := id hwf
  obtain ⟨-, ⟨nx, kp, fq, hrc, hrh, hrs⟩, -⟩ := id hR
  have hbM := hb.bM
  by_cases h0 : nt = 0
  · refine ⟨1, _, by decide, wl_rentedShare_1 hb hW (by decide) (by decide) ((cr_share_1 hb hW hwf h0).imp (fun _ _ z => z) (PXe.th hW)), ?_⟩
    rintro K1 M1 rfl hW1
    refine (Ct.md hb hW1 hw (mr_share_bad hbM hwf h0)).imp ?_
    rintro v M2 ⟨rfl, hW2⟩
    exact ⟨_, _, rfl, hW2, rfl, (fun h => by cases h), nc, nt, no, ⟨hok.mono (by omega), rfl⟩, (hR.th0 _ _).mono (by omega)⟩
  · have hpos : 0 < nt := by omega
    have hc9 := cr_share_ok hb hW hwf hpos
    rw [hok.ren] at hc9
    have hnan : Jvm.FP.Core.dIsNaN (FP.f2d (FP.fdiv (FP.i2f (renC (K.2.1 0) nt)) (FP.i2f (nI nt)))) = false := (Jvm.FP.f2d_nan _).trans (fq_num (nI_nz0 hpos (by omega)))
    refine ⟨0, _, by decide, wl_rentedShare_ok hb hW (by decide) (by decide) (hc9.imp (eqR.rs hW)) (n64 hnan), ?_⟩
    rintro K1 M1 ⟨K3, lo, rfl, rfl, hlo⟩ hW1
    refine (Ct.md (K := kDo K3 lo) hb hW1 hw (mr_share_ok hbM hwf hro hpos)).imp ?_
    rintro v M2 ⟨rfl, hW2⟩
    exact ⟨_, _, rfl, hW2, rfl, fun _ => ⟨hlo, hnan⟩, nc, nt, no, ⟨hok.mono (by omega), rfl⟩, (hR.th2 lo _ _).mono (by omega)⟩

