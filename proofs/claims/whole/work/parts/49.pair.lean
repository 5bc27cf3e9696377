/-- one call of the law: the class by its wrapper, then the reference -/
def EndI (E : Ev) (b : Nat → Nat) (k B : Nat) (g : Int32 → Int64) : Option Value → Hp → Prop := fun v M2 => ∃ r K2, v = some (.int r) ∧ Wd E b K2 M2 ∧ K2.2.2.2.2.1.1 0 = nI k ∧ (k = 0 → K2.2.2.2.2.2.2.1 0 = g r) ∧ Sim K2 (B + 60000)
def PairI (E : Ev) (b : Nat → Nat) (g : Int32 → Int64) (μW μM : Mth) (aW aM : List Value) (M : Hp) (B : Nat) : Prop := ∃ (k : Nat) (R : Kt → Prop), k < 10 ∧ CtH E μW aW M (RsC E b (.int (nI k)) R) 23 3266 ∧ ∀ K1 M1, R K1 → Wd E b K1 M1 → Ct E μM aM M1 (EndI E b k B g) 0 0
def g0 (r : Int32) : Int64 := r.toInt64
def g1 (r : Int32) : Int64 := if r = 0 then 0 else 1
section PR
variable {E : Ev} {b : Nat → Nat} {K : Kt} {M : Hp} {B : Nat}
/-- a contract of the reference, in the whole world -/
theorem Ct.md (hb : Lay E 162 b) (hW : Wd E b K M) {μ : Mth} {av : List Value} {r : Option Value} {mc ms : Nat} {T2 : St} {w0 w2 : Nat → Int32} (hw : K.2.2.2.2.2.1 = w0) (hc : Ct E μ av (MdW E (bM b) K.2.2.2.2.1 w0 M) (eqR r (MdW E (bM b) T2 w2 M)) mc ms) : Ct E μ av M (WR E b r (kMd K T2 w2)) mc ms := by
  subst hw
  exact (Ct.wr (hW.md hb) hc).imp (by rintro v M1 ⟨rfl, rfl⟩; exact ⟨rfl, hW.mdw hb T2 w2⟩)
theorem PairI.bad (hb : Lay E 162 b) (hS : Sim K B) {g : Int32 → Int64} {μW μM : Mth} {aW aM : List Value} {k : Nat} (h0 : 0 < k) (hk : k < 10) (hW9 : CtH E μW aW M (RsC E b (.int (nI k)) (fun K1 => K1 = K)) 23 3266) {w0 : Nat → Int32} (hw : K.2.2.2.2.2.1 = w0) {r : Int32} (hm : ∀ M1, Ct E μM aM (MdW E (bM b) K.2.2.2.2.1 w0 M1) (eqR (some (.int r)) (MdW E (bM b) (setS K.2.2.2.2.1 0 (nI k)) w0 M1)) 0 0) : PairI E b g μW μM aW aM M B := by
  refine ⟨k, _, hk, hW9, ?_⟩
  rintro K1 M1 rfl hW1
  refine (Ct.md hb hW1 hw (hm M1)).imp ?_
  rintro v M2 ⟨rfl, hW2⟩
  obtain ⟨nc, nt, no, hc, hR⟩ := hS
  exact ⟨r, _, rfl, hW2, rfl, fun h => absurd h (by omega), nc, nt, no, ⟨hc.1.mono (by omega), by rw [← hw]; exact hc.2⟩, (hR.th0 _ _).mono (by omega)⟩
theorem PairI.ok (hb : Lay E 162 b) {K1 : Kt} {g : Int32 → Int64} {r : Int32} {μW μM : Mth} {aW aM : List Value} (hW9 : CtH E μW aW M (RsC E b (.int (nI 0)) (LoR (fun K2 => K2 = K1) (g r))) 23 3266) {T2 : St} {w0 w2 : Nat → Int32} (hw : K1.2.2.2.2.2.1 = w0) (hm : ∀ M1, Ct E μM aM (MdW E (bM b) K1.2.2.2.2.1 w0 M1) (eqR (some (.int r)) (MdW E (bM b) T2 w2 M1)) 0 0) (ht : T2.1 0 = nI 0) (hs : ∀ lo, Sim (kMd (kLo K1 lo) T2 w2) (B + 60000)) : PairI E b g μW μM aW aM M B := by
  refine ⟨0, _, by decide, hW9, ?_⟩
  rintro K2 M1 ⟨K3, lo, rfl, rfl, hlo⟩ hW1
  refine (Ct.md (K := kLo K3 lo) hb hW1 hw (hm M1)).imp ?_
  rintro v M2 ⟨rfl, hW2⟩
  exact ⟨r, _, rfl, hW2, ht, fun _ => hlo, hs lo⟩
/-- a reader -/
theorem PairI.rd (hb : Lay E 162 b) (hS : Sim K B) {g : Int32 → Int64} {r : Int32} {μW μM : Mth} {aW aM : List Value} (hW9 : CtH E μW aW M (RsC E b (.int (nI 0)) (LoR (fun K2 => K2 = K) (g r))) 23 3266) {w0 : Nat → Int32} (hw : K.2.2.2.2.2.1 = w0) (hm : ∀ M1, Ct E μM aM (MdW E (bM b) K.2.2.2.2.1 w0 M1) (eqR (some (.int r)) (MdW E (bM b) (setS K.2.2.2.2.1 0 (nI 0)) w0 M1)) 0 0) : PairI E b g μW μM aW aM M B := by
  refine PairI.ok hb hW9 hw hm rfl (fun lo => ?_)
  obtain ⟨nc, nt, no, hc, hR⟩ := hS
  exact ⟨nc, nt, no, ⟨hc.1.mono (by omega), by rw [← hw]; exact hc.2⟩, (hR.th lo _ _).mono (by omega)⟩
end PR

theorem comF_rg (S : St) (m : Int32) : comF S m = 0 ∨ comF S m = nI 1 ∨ comF S m = nI 2 := by
  unfold comF
  (repeat' split) <;> first | exact Or.inl rfl | exact Or.inr (Or.inl rfl) | exact Or.inr (Or.inr (rfl))
theorem taiF_rg (S : St) (m : Int32) : taiF S m = 0 ∨ taiF S m = nI 1 ∨ taiF S m = nI 2 := by
  unfold taiF
  (repeat' split) <;> first | exact Or.inl rfl | exact Or.inr (Or.inl rfl) | exact Or.inr (Or.inr (rfl))
theorem payF_rg (S : St) (nc : Nat) (c x : Int32) : payF S nc c x = 0 ∨ payF S nc c x = nI 1 ∨ payF S nc c x = nI 2 ∨ payF S nc c x = nI 3 := by
  unfold payF
  (repeat' split) <;> first | exact Or.inl rfl | exact Or.inr (Or.inl rfl) | exact Or.inr (Or.inr (Or.inl rfl)) | exact Or.inr (Or.inr (Or.inr (rfl)))
theorem lauF_rg (S : St) (nc : Nat) (c : Int32) : lauF S nc c = 0 ∨ lauF S nc c = nI 1 ∨ lauF S nc c = nI 2 := by
  unfold lauF
  (repeat' split) <;> first | exact Or.inl rfl | exact Or.inr (Or.inl rfl) | exact Or.inr (Or.inr (rfl))
theorem tmoF_rg (S : St) (nc nt : Nat) (c x : Int32) : tmoF S nc nt c x = 0 ∨ tmoF S nc nt c x = nI 1 ∨ tmoF S nc nt c x = nI 2 := by
  unfold tmoF
  (repeat' split) <;> first | exact Or.inl rfl | exact Or.inr (Or.inl rfl) | exact Or.inr (Or.inr (rfl))
theorem gmoF_rg (S : St) (nc : Nat) (c x : Int32) : gmoF S nc c x = 0 ∨ gmoF S nc c x = nI 1 ∨ gmoF S nc c x = nI 2 := by
  unfold gmoF
  (repeat' split) <;> first | exact Or.inl rfl | exact Or.inr (Or.inl rfl) | exact Or.inr (Or.inr (rfl))
theorem secF_rg (S : St) (nc no : Nat) (c x : Int32) : secF S nc no c x = 0 ∨ secF S nc no c x = nI 1 ∨ secF S nc no c x = nI 2 ∨ secF S nc no c x = nI 3 ∨ secF S nc no c x = nI 4 := by
  unfold secF
  (repeat' split) <;> first | exact Or.inl rfl | exact Or.inr (Or.inl rfl) | exact Or.inr (Or.inr (Or.inl rfl)) | exact Or.inr (Or.inr (Or.inr (Or.inl rfl))) | exact Or.inr (Or.inr (Or.inr (Or.inr (rfl))))
theorem untF_rg (S : St) (no : Nat) (c : Int32) : untF S no c = 0 ∨ untF S no c = nI 1 ∨ untF S no c = nI 2 := by
  unfold untF
  (repeat' split) <;> first | exact Or.inl rfl | exact Or.inr (Or.inl rfl) | exact Or.inr (Or.inr (rfl))
theorem witF_rg (S : St) (no : Nat) (c : Int32) : witF S no c = 0 ∨ witF S no c = nI 1 := by
  unfold witF
  (repeat' split) <;> first | exact Or.inl rfl | exact Or.inr (rfl)
theorem votF_rg (S : St) (no : Nat) (c : Int32) : votF S no c = 0 ∨ votF S no c = nI 1 ∨ votF S no c = nI 2 := by
  unfold votF
  (repeat' split) <;> first | exact Or.inl rfl | exact Or.inr (Or.inl rfl) | exact Or.inr (Or.inr (rfl))
theorem gusF_rg (c : Int32) : gusF c = 0 ∨ gusF c = nI 1 := by
  unfold gusF
  (repeat' split) <;> first | exact Or.inl rfl | exact Or.inr (rfl)
theorem pasF_rg (c : Int32) : pasF c = 0 ∨ pasF c = nI 1 := by
  unfold pasF
  (repeat' split) <;> first | exact Or.inl rfl | exact Or.inr (rfl)
set_option maxRecDepth 100000 in
set_option maxHeartbeats 4000000 in
theorem pr_addCommittee {E : Ev} {b : Nat → Nat} {K : Kt} {M : Hp} {B : Nat} (hb : Lay E 162 b) (hW : Wd E b K M) (hS : Sim K B) (hB : B + 200000 < 2 ^ 26) (c : Int32) : PairI E b g0 mL_addCommittee mX5_addCommittee [.ref (b 0), .int c, .ref (b 160)] [.ref (b 151), .int c] M B := by
  obtain ⟨nc, nt, no, hcur, hR⟩ := id hS
  obtain ⟨hok, hw⟩ := id hcur
  obtain ⟨hwf, hn, -, -, hro, -, hse, -, hch⟩ := id hok
  obtain ⟨-, hnc6, -, hnt8, -, hno8⟩ := id hwf
  obtain ⟨-, ⟨nx, kp, fq, hrc, hrh, hrs⟩, -⟩ := id hR
  have hbM := hb.bM
  rcases comF_rg (K.2.1 0) c with hF | hF | hF
  · have hlt := (comF_0 hwf hF).1
    have hok2 : Ok (comS (K.2.1 0) nc c) (nc + 1) (nt) (no) (B + 60000) := by
      have h := OkS.xD (σ := ((K.2.1 0), nc, nt, no)) (kind := 0) (p0 := c) (p1 := 0) hok (by omega) hF
      exact Ok.mono h (by omega)
    exact PairI.ok hb (wl_addCommittee_ok hb hW (by decide) (by decide) ((cf_addCommittee_ok hb hW hwf hn hrc _ hF hlt).imp WR.rs)) hw (fun M1 => mo_addCommittee_ok hbM hwf hrh _ hF hlt) rfl (fun lo => hR.change (by omega) hcur hrc hrh hrs hok2 lo)
  · have hm : ∀ M1, _ := fun M1 => mo_addCommittee_bad (b := bM b) (T := K.2.2.2.2.1) (M := M1) hbM hwf c (by rw [hF]; decide)
    rw [hF] at hm
    exact PairI.bad hb hS (by decide) (by decide) (wl_addCommittee_1 hb hW (by decide) (by decide) ((cf_addCommittee_1 hb hW hwf c hF).imp (fun _ _ z => z) (PXe.th hW))) hw hm
  · have hm : ∀ M1, _ := fun M1 => mo_addCommittee_bad (b := bM b) (T := K.2.2.2.2.1) (M := M1) hbM hwf c (by rw [hF]; decide)
    rw [hF] at hm
    exact PairI.bad hb hS (by decide) (by decide) (wl_addCommittee_2 hb hW (by decide) (by decide) ((cf_addCommittee_2 hb hW hwf c hF).imp (fun _ _ z => z) (PXe.th hW))) hw hm

set_option maxRecDepth 100000 in
set_option maxHeartbeats 4000000 in
theorem pr_addTail {E : Ev} {b : Nat → Nat} {K : Kt} {M : Hp} {B : Nat} (hb : Lay E 162 b) (hW : Wd E b K M) (hS : Sim K B) (hB : B + 200000 < 2 ^ 26) (c : Int32) : PairI E b g0 mL_addTail mX5_addTail [.ref (b 0), .int c, .ref (b 160)] [.ref (b 151), .int c] M B := by
  obtain ⟨nc, nt, no, hcur, hR⟩ := id hS
  obtain ⟨hok, hw⟩ := id hcur
  obtain ⟨hwf, hn, -, -, hro, -, hse, -, hch⟩ := id hok
  obtain ⟨-, hnc6, -, hnt8, -, hno8⟩ := id hwf
  obtain ⟨-, ⟨nx, kp, fq, hrc, hrh, hrs⟩, -⟩ := id hR
  have hbM := hb.bM
  rcases taiF_rg (K.2.1 0) c with hF | hF | hF
  · have hlt := (taiF_0 hwf hF).1
    have hok2 : Ok (taiS (K.2.1 0) nt c) (nc) (nt + 1) (no) (B + 60000) := by
      have h := OkS.xD (σ := ((K.2.1 0), nc, nt, no)) (kind := 1) (p0 := c) (p1 := 0) hok (by omega) hF
      exact Ok.mono h (by omega)
    exact PairI.ok hb (wl_addTail_ok hb hW (by decide) (by decide) ((cf_addTail_ok hb hW hwf hn hrc _ hF hlt).imp WR.rs)) hw (fun M1 => mo_addTail_ok hbM hwf hrh _ hF hlt) rfl (fun lo => hR.change (by omega) hcur hrc hrh hrs hok2 lo)
  · have hm : ∀ M1, _ := fun M1 => mo_addTail_bad (b := bM b) (T := K.2.2.2.2.1) (M := M1) hbM hwf c (by rw [hF]; decide)
    rw [hF] at hm
    exact PairI.bad hb hS (by decide) (by decide) (wl_addTail_1 hb hW (by decide) (by decide) ((cf_addTail_1 hb hW hwf c hF).imp (fun _ _ z => z) (PXe.th hW))) hw hm
  · have hm : ∀ M1, _ := fun M1 => mo_addTail_bad (b := bM b) (T := K.2.2.2.2.1) (M := M1) hbM hwf c (by rw [hF]; decide)
    rw [hF] at hm
    exact PairI.bad hb hS (by decide) (by decide) (wl_addTail_2 hb hW (by decide) (by decide) ((cf_addTail_2 hb hW hwf c hF).imp (fun _ _ z => z) (PXe.th hW))) hw hm

set_option maxRecDepth 100000 in
set_option maxHeartbeats 4000000 in
theorem pr_pay {E : Ev} {b : Nat → Nat} {K : Kt} {M : Hp} {B : Nat} (hb : Lay E 162 b) (hW : Wd E b K M) (hS : Sim K B) (hB : B + 200000 < 2 ^ 26) (c x : Int32) : PairI E b g0 mL_pay mX5_pay [.ref (b 0), .int c, .int x, .ref (b 160)] [.ref (b 151), .int c, .int x] M B := by
  obtain ⟨nc, nt, no, hcur, hR⟩ := id hS
  obtain ⟨hok, hw⟩ := id hcur
  obtain ⟨hwf, hn, -, -, hro, -, hse, -, hch⟩ := id hok
  obtain ⟨-, hnc6, -, hnt8, -, hno8⟩ := id hwf
  obtain ⟨-, ⟨nx, kp, fq, hrc, hrh, hrs⟩, -⟩ := id hR
  have hbM := hb.bM
  rcases payF_rg (K.2.1 0) nc c x with hF | hF | hF | hF
  · obtain ⟨j, y, hj, rfl, hy1, hy2, rfl, hle⟩ := payF_0 hnc6 hF
    have hok2 : Ok (payS (K.2.1 0) j (nI y)) (nc) (nt) (no) (B + 60000) := by
      have h := OkS.xD (σ := ((K.2.1 0), nc, nt, no)) (kind := 2) (p0 := (nI j)) (p1 := (nI y)) hok (by omega) hF
      have e : (xD ((K.2.1 0), nc, nt, no) 2 (nI j) (nI y)).1 = payS (K.2.1 0) j (nI y) := by
        show payS (K.2.1 0) (nI j).toNatClampNeg (nI y) = _
        rw [nI_clamp (by omega)]
      unfold OkS at h
      rw [e] at h
      exact Ok.mono h (by omega)
    exact PairI.ok hb (wl_pay_ok hb hW (by decide) (by decide) ((cf_pay_ok hb hW hwf hn hrc _ _ hF hj rfl).imp WR.rs)) hw (fun M1 => mo_pay_ok hbM hwf hrh _ _ hF hj rfl) rfl (fun lo => hR.change (by omega) hcur hrc hrh hrs hok2 lo)
  · have hm : ∀ M1, _ := fun M1 => mo_pay_bad (b := bM b) (T := K.2.2.2.2.1) (M := M1) hbM hwf c x (by rw [hF]; decide)
    rw [hF] at hm
    exact PairI.bad hb hS (by decide) (by decide) (wl_pay_1 hb hW (by decide) (by decide) ((cf_pay_1 hb hW hwf c x hF).imp (fun _ _ z => z) (PXe.th hW))) hw hm
  · have hm : ∀ M1, _ := fun M1 => mo_pay_bad (b := bM b) (T := K.2.2.2.2.1) (M := M1) hbM hwf c x (by rw [hF]; decide)
    rw [hF] at hm
    exact PairI.bad hb hS (by decide) (by decide) (wl_pay_2 hb hW (by decide) (by decide) ((cf_pay_2 hb hW hwf c x hF).imp (fun _ _ z => z) (PXe.th hW))) hw hm
  · have hm : ∀ M1, _ := fun M1 => mo_pay_bad (b := bM b) (T := K.2.2.2.2.1) (M := M1) hbM hwf c x (by rw [hF]; decide)
    rw [hF] at hm
    exact PairI.bad hb hS (by decide) (by decide) (wl_pay_3 hb hW (by decide) (by decide) ((cf_pay_3 hb hW hwf c x hF).imp (fun _ _ z => z) (PXe.th hW))) hw hm

set_option maxRecDepth 100000 in
set_option maxHeartbeats 4000000 in
theorem pr_launch {E : Ev} {b : Nat → Nat} {K : Kt} {M : Hp} {B : Nat} (hb : Lay E 162 b) (hW : Wd E b K M) (hS : Sim K B) (hB : B + 200000 < 2 ^ 26) (c : Int32) : PairI E b g0 mL_launch mX5_launch [.ref (b 0), .int c, .ref (b 160)] [.ref (b 151), .int c] M B := by
  obtain ⟨nc, nt, no, hcur, hR⟩ := id hS
  obtain ⟨hok, hw⟩ := id hcur
  obtain ⟨hwf, hn, -, -, hro, -, hse, -, hch⟩ := id hok
  obtain ⟨-, hnc6, -, hnt8, -, hno8⟩ := id hwf
  obtain ⟨-, ⟨nx, kp, fq, hrc, hrh, hrs⟩, -⟩ := id hR
  have hbM := hb.bM
  rcases lauF_rg (K.2.1 0) nc c with hF | hF | hF
  · obtain ⟨j, hj, rfl⟩ := lauF_0 hnc6 hF
    have hok2 : Ok (flyS (K.2.1 0) j) (nc) (nt) (no) (B + 60000) := by
      have h := OkS.xD (σ := ((K.2.1 0), nc, nt, no)) (kind := 3) (p0 := (nI j)) (p1 := 0) hok (by omega) hF
      have e : (xD ((K.2.1 0), nc, nt, no) 3 (nI j) 0).1 = flyS (K.2.1 0) j := by
        show flyS (K.2.1 0) (nI j).toNatClampNeg = _
        rw [nI_clamp (by omega)]
      unfold OkS at h
      rw [e] at h
      exact Ok.mono h (by omega)
    exact PairI.ok hb (wl_launch_ok hb hW (by decide) (by decide) ((cf_launch_ok hb hW hwf hn hrc _ hF hj rfl).imp WR.rs)) hw (fun M1 => mo_launch_ok hbM hwf hrh hn _ hF hj rfl) rfl (fun lo => hR.change (by omega) hcur hrc hrh hrs hok2 lo)
  · have hm : ∀ M1, _ := fun M1 => mo_launch_bad (b := bM b) (T := K.2.2.2.2.1) (M := M1) hbM hwf hn c (by rw [hF]; decide)
    rw [hF] at hm
    exact PairI.bad hb hS (by decide) (by decide) (wl_launch_1 hb hW (by decide) (by decide) ((cf_launch_1 hb hW hwf c hF).imp (fun _ _ z => z) (PXe.th hW))) hw hm
  · have hm : ∀ M1, _ := fun M1 => mo_launch_bad (b := bM b) (T := K.2.2.2.2.1) (M := M1) hbM hwf hn c (by rw [hF]; decide)
    rw [hF] at hm
    exact PairI.bad hb hS (by decide) (by decide) (wl_launch_2 hb hW (by decide) (by decide) ((cf_launch_2 hb hW hwf c hF).imp (fun _ _ z => z) (PXe.th hW))) hw hm

set_option maxRecDepth 100000 in
set_option maxHeartbeats 4000000 in
theorem pr_moveToRent {E : Ev} {b : Nat → Nat} {K : Kt} {M : Hp} {B : Nat} (hb : Lay E 162 b) (hW : Wd E b K M) (hS : Sim K B) (hB : B + 200000 < 2 ^ 26) (c x : Int32) : PairI E b g0 mL_moveToRent mX5_moveToRent [.ref (b 0), .int c, .int x, .ref (b 160)] [.ref (b 151), .int c, .int x] M B := by
  obtain ⟨nc, nt, no, hcur, hR⟩ := id hS
  obtain ⟨hok, hw⟩ := id hcur
  obtain ⟨hwf, hn, -, -, hro, -, hse, -, hch⟩ := id hok
  obtain ⟨-, hnc6, -, hnt8, -, hno8⟩ := id hwf
  obtain ⟨-, ⟨nx, kp, fq, hrc, hrh, hrs⟩, -⟩ := id hR
  have hbM := hb.bM
  rcases tmoF_rg (K.2.1 0) nc nt c x with hF | hF | hF
  · have hlt := (tmoF_0 hwf hF).1
    have hok2 : Ok (motS (K.2.1 0) no (nI 114) c x) (nc) (nt) (no + 1) (B + 60000) := by
      have h := OkS.xD (σ := ((K.2.1 0), nc, nt, no)) (kind := 4) (p0 := c) (p1 := x) hok (by omega) hF
      exact Ok.mono h (by omega)
    exact PairI.ok hb (wl_moveToRent_ok hb hW (by decide) (by decide) ((cf_rent_ok hb hW hwf hn hrc _ _ hF hlt).imp WR.rs)) hw (fun M1 => mo_rent_ok hbM hwf hrh _ _ hF hlt) rfl (fun lo => hR.change (by omega) hcur hrc hrh hrs hok2 lo)
  · have hm : ∀ M1, _ := fun M1 => mo_rent_bad (b := bM b) (T := K.2.2.2.2.1) (M := M1) hbM hwf c x (by rw [hF]; decide)
    rw [hF] at hm
    exact PairI.bad hb hS (by decide) (by decide) (wl_moveToRent_1 hb hW (by decide) (by decide) ((cf_rent_1 hb hW hwf c x hF).imp (fun _ _ z => z) (PXe.th hW))) hw hm
  · have hm : ∀ M1, _ := fun M1 => mo_rent_bad (b := bM b) (T := K.2.2.2.2.1) (M := M1) hbM hwf c x (by rw [hF]; decide)
    rw [hF] at hm
    exact PairI.bad hb hS (by decide) (by decide) (wl_moveToRent_2 hb hW (by decide) (by decide) ((cf_rent_2 hb hW hwf c x hF).imp (fun _ _ z => z) (PXe.th hW))) hw hm

set_option maxRecDepth 100000 in
set_option maxHeartbeats 4000000 in
theorem pr_moveToReturn {E : Ev} {b : Nat → Nat} {K : Kt} {M : Hp} {B : Nat} (hb : Lay E 162 b) (hW : Wd E b K M) (hS : Sim K B) (hB : B + 200000 < 2 ^ 26) (c x : Int32) : PairI E b g0 mL_moveToReturn mX5_moveToReturn [.ref (b 0), .int c, .int x, .ref (b 160)] [.ref (b 151), .int c, .int x] M B := by
  obtain ⟨nc, nt, no, hcur, hR⟩ := id hS
  obtain ⟨hok, hw⟩ := id hcur
  obtain ⟨hwf, hn, -, -, hro, -, hse, -, hch⟩ := id hok
  obtain ⟨-, hnc6, -, hnt8, -, hno8⟩ := id hwf
  obtain ⟨-, ⟨nx, kp, fq, hrc, hrh, hrs⟩, -⟩ := id hR
  have hbM := hb.bM
  rcases tmoF_rg (K.2.1 0) nc nt c x with hF | hF | hF
  · have hlt := (tmoF_0 hwf hF).1
    have hok2 : Ok (motS (K.2.1 0) no (nI 116) c x) (nc) (nt) (no + 1) (B + 60000) := by
      have h := OkS.xD (σ := ((K.2.1 0), nc, nt, no)) (kind := 5) (p0 := c) (p1 := x) hok (by omega) hF
      exact Ok.mono h (by omega)
    exact PairI.ok hb (wl_moveToReturn_ok hb hW (by decide) (by decide) ((cf_return_ok hb hW hwf hn hrc _ _ hF hlt).imp WR.rs)) hw (fun M1 => mo_return_ok hbM hwf hrh _ _ hF hlt) rfl (fun lo => hR.change (by omega) hcur hrc hrh hrs hok2 lo)
  · have hm : ∀ M1, _ := fun M1 => mo_return_bad (b := bM b) (T := K.2.2.2.2.1) (M := M1) hbM hwf c x (by rw [hF]; decide)
    rw [hF] at hm
    exact PairI.bad hb hS (by decide) (by decide) (wl_moveToReturn_1 hb hW (by decide) (by decide) ((cf_return_1 hb hW hwf c x hF).imp (fun _ _ z => z) (PXe.th hW))) hw hm
  · have hm : ∀ M1, _ := fun M1 => mo_return_bad (b := bM b) (T := K.2.2.2.2.1) (M := M1) hbM hwf c x (by rw [hF]; decide)
    rw [hF] at hm
    exact PairI.bad hb hS (by decide) (by decide) (wl_moveToReturn_2 hb hW (by decide) (by decide) ((cf_return_2 hb hW hwf c x hF).imp (fun _ _ z => z) (PXe.th hW))) hw hm

set_option maxRecDepth 100000 in
set_option maxHeartbeats 4000000 in
theorem pr_moveToGround {E : Ev} {b : Nat → Nat} {K : Kt} {M : Hp} {B : Nat} (hb : Lay E 162 b) (hW : Wd E b K M) (hS : Sim K B) (hB : B + 200000 < 2 ^ 26) (c x : Int32) : PairI E b g0 mL_moveToGround mX5_moveToGround [.ref (b 0), .int c, .int x, .ref (b 160)] [.ref (b 151), .int c, .int x] M B := by
  obtain ⟨nc, nt, no, hcur, hR⟩ := id hS
  obtain ⟨hok, hw⟩ := id hcur
  obtain ⟨hwf, hn, -, -, hro, -, hse, -, hch⟩ := id hok
  obtain ⟨-, hnc6, -, hnt8, -, hno8⟩ := id hwf
  obtain ⟨-, ⟨nx, kp, fq, hrc, hrh, hrs⟩, -⟩ := id hR
  have hbM := hb.bM
  rcases gmoF_rg (K.2.1 0) nc c x with hF | hF | hF
  · have hlt := (gmoF_0 hwf hF).1
    have hok2 : Ok (motS (K.2.1 0) no (nI 103) c x) (nc) (nt) (no + 1) (B + 60000) := by
      have h := OkS.xD (σ := ((K.2.1 0), nc, nt, no)) (kind := 6) (p0 := c) (p1 := x) hok (by omega) hF
      exact Ok.mono h (by omega)
    exact PairI.ok hb (wl_moveToGround_ok hb hW (by decide) (by decide) ((cf_ground_ok hb hW hwf hn hrc _ _ hF hlt).imp WR.rs)) hw (fun M1 => mo_ground_ok hbM hwf hrh _ _ hF hlt) rfl (fun lo => hR.change (by omega) hcur hrc hrh hrs hok2 lo)
  · have hm : ∀ M1, _ := fun M1 => mo_ground_bad (b := bM b) (T := K.2.2.2.2.1) (M := M1) hbM hwf c x (by rw [hF]; decide)
    rw [hF] at hm
    exact PairI.bad hb hS (by decide) (by decide) (wl_moveToGround_1 hb hW (by decide) (by decide) ((cf_ground_1 hb hW hwf c x hF).imp (fun _ _ z => z) (PXe.th hW))) hw hm
  · have hm : ∀ M1, _ := fun M1 => mo_ground_bad (b := bM b) (T := K.2.2.2.2.1) (M := M1) hbM hwf c x (by rw [hF]; decide)
    rw [hF] at hm
    exact PairI.bad hb hS (by decide) (by decide) (wl_moveToGround_2 hb hW (by decide) (by decide) ((cf_ground_2 hb hW hwf c x hF).imp (fun _ _ z => z) (PXe.th hW))) hw hm

set_option maxRecDepth 100000 in
set_option maxHeartbeats 4000000 in
theorem pr_second {E : Ev} {b : Nat → Nat} {K : Kt} {M : Hp} {B : Nat} (hb : Lay E 162 b) (hW : Wd E b K M) (hS : Sim K B) (hB : B + 200000 < 2 ^ 26) (c x : Int32) : PairI E b g0 mL_second mX5_second [.ref (b 0), .int c, .int x, .ref (b 160)] [.ref (b 151), .int c, .int x] M B := by
  obtain ⟨nc, nt, no, hcur, hR⟩ := id hS
  obtain ⟨hok, hw⟩ := id hcur
  obtain ⟨hwf, hn, -, -, hro, -, hse, -, hch⟩ := id hok
  obtain ⟨-, hnc6, -, hnt8, -, hno8⟩ := id hwf
  obtain ⟨-, ⟨nx, kp, fq, hrc, hrh, hrs⟩, -⟩ := id hR
  have hbM := hb.bM
  rcases secF_rg (K.2.1 0) nc no c x with hF | hF | hF | hF | hF
  · obtain ⟨⟨j, hj, rfl⟩, k, ho⟩ := secF_0 hnc6 hF
    have hok2 : Ok (sedS (K.2.1 0) k (nI j)) (nc) (nt) (no) (B + 60000) := by
      have h := OkS.xD (σ := ((K.2.1 0), nc, nt, no)) (kind := 7) (p0 := (nI j)) (p1 := x) hok (by omega) hF
      have e : (xD ((K.2.1 0), nc, nt, no) 7 (nI j) x).1 = sedS (K.2.1 0) k (nI j) := by
        show sedS (K.2.1 0) (slK (K.2.1 0) no x) (nI j) = _
        rw [slK_e ho]
      unfold OkS at h
      rw [e] at h
      exact Ok.mono h (by omega)
    exact PairI.ok hb (wl_second_ok hb hW (by decide) (by decide) ((cf_second_ok hb hW hwf hn hrc _ _ hF ho).imp WR.rs)) hw (fun M1 => mo_second_ok hbM hwf hrh hse _ _ hF ho ⟨j, hj, rfl⟩) rfl (fun lo => hR.change (by omega) hcur hrc hrh hrs hok2 lo)
  · have hm : ∀ M1, _ := fun M1 => mo_second_bad (b := bM b) (T := K.2.2.2.2.1) (M := M1) hbM hwf hse c x (by rw [hF]; decide)
    rw [hF] at hm
    exact PairI.bad hb hS (by decide) (by decide) (wl_second_1 hb hW (by decide) (by decide) ((cf_second_1 hb hW hwf c x hF).imp (fun _ _ z => z) (PXe.th hW))) hw hm
  · have hm : ∀ M1, _ := fun M1 => mo_second_bad (b := bM b) (T := K.2.2.2.2.1) (M := M1) hbM hwf hse c x (by rw [hF]; decide)
    rw [hF] at hm
    exact PairI.bad hb hS (by decide) (by decide) (wl_second_2 hb hW (by decide) (by decide) ((cf_second_2 hb hW hwf c x hF).imp (fun _ _ z => z) (PXe.th hW))) hw hm
  · have hm : ∀ M1, _ := fun M1 => mo_second_bad (b := bM b) (T := K.2.2.2.2.1) (M := M1) hbM hwf hse c x (by rw [hF]; decide)
    rw [hF] at hm
    exact PairI.bad hb hS (by decide) (by decide) (wl_second_3 hb hW (by decide) (by decide) ((cf_second_3 hb hW hwf c x hF).imp (fun _ _ z => z) (PXe.th hW))) hw hm
  · have hm : ∀ M1, _ := fun M1 => mo_second_bad (b := bM b) (T := K.2.2.2.2.1) (M := M1) hbM hwf hse c x (by rw [hF]; decide)
    rw [hF] at hm
    exact PairI.bad hb hS (by decide) (by decide) (wl_second_4 hb hW (by decide) (by decide) ((cf_second_4 hb hW hwf c x hF).imp (fun _ _ z => z) (PXe.th hW))) hw hm

set_option maxRecDepth 100000 in
set_option maxHeartbeats 4000000 in
theorem pr_untable {E : Ev} {b : Nat → Nat} {K : Kt} {M : Hp} {B : Nat} (hb : Lay E 162 b) (hW : Wd E b K M) (hS : Sim K B) (hB : B + 200000 < 2 ^ 26) (c : Int32) : PairI E b g0 mL_untable mX5_untable [.ref (b 0), .int c, .ref (b 160)] [.ref (b 151), .int c] M B := by
  obtain ⟨nc, nt, no, hcur, hR⟩ := id hS
  obtain ⟨hok, hw⟩ := id hcur
  obtain ⟨hwf, hn, -, -, hro, -, hse, -, hch⟩ := id hok
  obtain ⟨-, hnc6, -, hnt8, -, hno8⟩ := id hwf
  obtain ⟨-, ⟨nx, kp, fq, hrc, hrh, hrs⟩, -⟩ := id hR
  have hbM := hb.bM
  rcases untF_rg (K.2.1 0) no c with hF | hF | hF
  · obtain ⟨k, ho⟩ := untF_0 hF
    obtain ⟨a, o, hk, ha, hmv, e2, ho2, e4⟩ := OkS.mot (σ := ((K.2.1 0), nc, nt, no)) hok ho
    have hok2 : Ok (untS (K.2.1 0) k a) (nc) (nt) (no) (B + 60000) := by
      have h := OkS.xD (σ := ((K.2.1 0), nc, nt, no)) (kind := 8) (p0 := c) (p1 := 0) hok (by omega) hF
      have e : (xD ((K.2.1 0), nc, nt, no) 8 c 0).1 = untS (K.2.1 0) k a := by
        show untS (K.2.1 0) (slK (K.2.1 0) no c) ((K.2.1 0).2 9 (slK (K.2.1 0) no c)).toNatClampNeg = _
        rw [slK_e ho, e2]
      unfold OkS at h
      rw [e] at h
      exact Ok.mono h (by omega)
    exact PairI.ok hb (wl_untable_ok hb hW (by decide) (by decide) ((cf_untable_ok hb hW hwf hn hrc _ hF ho hmv ha).imp WR.rs)) hw (fun M1 => mo_untable_ok hbM hwf hrh _ hF ho hmv ha) rfl (fun lo => hR.change (by omega) hcur hrc hrh hrs hok2 lo)
  · have hm : ∀ M1, _ := fun M1 => mo_untable_bad (b := bM b) (T := K.2.2.2.2.1) (M := M1) hbM hwf c (by rw [hF]; decide)
    rw [hF] at hm
    exact PairI.bad hb hS (by decide) (by decide) (wl_untable_1 hb hW (by decide) (by decide) ((cf_untable_1 hb hW hwf c hF).imp (fun _ _ z => z) (PXe.th hW))) hw hm
  · have hm : ∀ M1, _ := fun M1 => mo_untable_bad (b := bM b) (T := K.2.2.2.2.1) (M := M1) hbM hwf c (by rw [hF]; decide)
    rw [hF] at hm
    exact PairI.bad hb hS (by decide) (by decide) (wl_untable_2 hb hW (by decide) (by decide) ((cf_untable_2 hb hW hwf c hF).imp (fun _ _ z => z) (PXe.th hW))) hw hm

set_option maxRecDepth 100000 in
set_option maxHeartbeats 4000000 in
theorem pr_withdraw {E : Ev} {b : Nat → Nat} {K : Kt} {M : Hp} {B : Nat} (hb : Lay E 162 b) (hW : Wd E b K M) (hS : Sim K B) (hB : B + 200000 < 2 ^ 26) (c : Int32) : PairI E b g0 mL_withdraw mX5_withdraw [.ref (b 0), .int c, .ref (b 160)] [.ref (b 151), .int c] M B := by
  obtain ⟨nc, nt, no, hcur, hR⟩ := id hS
  obtain ⟨hok, hw⟩ := id hcur
  obtain ⟨hwf, hn, -, -, hro, -, hse, -, hch⟩ := id hok
  obtain ⟨-, hnc6, -, hnt8, -, hno8⟩ := id hwf
  obtain ⟨-, ⟨nx, kp, fq, hrc, hrh, hrs⟩, -⟩ := id hR
  have hbM := hb.bM
  rcases witF_rg (K.2.1 0) no c with hF | hF
  · obtain ⟨k, ho⟩ := witF_0 hF
    have hok2 : Ok (cloS (K.2.1 0) no k) (nc) (nt) (no - 1) (B + 60000) := by
      have h := OkS.xD (σ := ((K.2.1 0), nc, nt, no)) (kind := 9) (p0 := c) (p1 := 0) hok (by omega) hF
      have e : (xD ((K.2.1 0), nc, nt, no) 9 c 0).1 = cloS (K.2.1 0) no k := by
        show cloS (K.2.1 0) no (slK (K.2.1 0) no c) = _
        rw [slK_e ho]
      unfold OkS at h
      rw [e] at h
      exact Ok.mono h (by omega)
    exact PairI.ok hb (wl_withdraw_ok hb hW (by decide) (by decide) ((cf_withdraw_ok hb hW hwf hn hrc _ hF ho).imp WR.rs)) hw (fun M1 => mo_withdraw_ok hbM hwf hrh _ hF ho) rfl (fun lo => hR.change (by omega) hcur hrc hrh hrs hok2 lo)
  · have hm : ∀ M1, _ := fun M1 => mo_withdraw_bad (b := bM b) (T := K.2.2.2.2.1) (M := M1) hbM hwf c (by rw [hF]; decide)
    rw [hF] at hm
    exact PairI.bad hb hS (by decide) (by decide) (wl_withdraw_1 hb hW (by decide) (by decide) ((cf_withdraw_1 hb hW hwf c hF).imp (fun _ _ z => z) (PXe.th hW))) hw hm

set_option maxRecDepth 100000 in
set_option maxHeartbeats 4000000 in
theorem pr_vote {E : Ev} {b : Nat → Nat} {K : Kt} {M : Hp} {B : Nat} (hb : Lay E 162 b) (hW : Wd E b K M) (hS : Sim K B) (hB : B + 200000 < 2 ^ 26) (c : Int32) : PairI E b g1 mL_vote mX5_vote [.ref (b 0), .int c, .ref (b 160)] [.ref (b 151), .int c] M B := by
  obtain ⟨nc, nt, no, hcur, hR⟩ := id hS
  obtain ⟨hok, hw⟩ := id hcur
  obtain ⟨hwf, hn, -, -, hro, -, hse, -, hch⟩ := id hok
  obtain ⟨-, hnc6, -, hnt8, -, hno8⟩ := id hwf
  obtain ⟨-, ⟨nx, kp, fq, hrc, hrh, hrs⟩, -⟩ := id hR
  have hbM := hb.bM
  rcases votF_rg (K.2.1 0) no c with hF | hF | hF
  · obtain ⟨k, ho⟩ := votF_0 hF
    obtain ⟨a, o, hk, ha, hmv, e2, ho2, e4⟩ := OkS.mot (σ := ((K.2.1 0), nc, nt, no)) hok ho
    have hok2 : Ok (votS (K.2.1 0) nc nt no k a o) (nc) (nt) (no - 1) (B + 60000) := by
      have h := OkS.xD (σ := ((K.2.1 0), nc, nt, no)) (kind := 10) (p0 := c) (p1 := 0) hok (by omega) hF
      have e : (xD ((K.2.1 0), nc, nt, no) 10 c 0).1 = votS (K.2.1 0) nc nt no k a o := by
        show votS (K.2.1 0) nc nt no (slK (K.2.1 0) no c) ((K.2.1 0).2 9 (slK (K.2.1 0) no c)).toNatClampNeg ((K.2.1 0).2 10 (slK (K.2.1 0) no c)).toNatClampNeg = _
        rw [slK_e ho, e2, e4]
      unfold OkS at h
      rw [e] at h
      exact Ok.mono h (by omega)
    exact PairI.ok hb (wl_vote_ok hb hW (by decide) (by decide) ((cf_vote_ok hb hW hwf hn hrc _ hF ho hmv ha ho2).imp WR.rs)) hw (fun M1 => mo_vote_ok hbM hwf hrh hn _ hF ho hmv ha ho2) rfl (fun lo => hR.change (by omega) hcur hrc hrh hrs hok2 lo)
  · have hm : ∀ M1, _ := fun M1 => mo_vote_bad (b := bM b) (T := K.2.2.2.2.1) (M := M1) hbM hwf hn c (by rw [hF]; decide)
    rw [hF] at hm
    exact PairI.bad hb hS (by decide) (by decide) (wl_vote_1 hb hW (by decide) (by decide) ((cf_vote_1 hb hW hwf c hF).imp (fun _ _ z => z) (PXe.th hW))) hw hm
  · have hm : ∀ M1, _ := fun M1 => mo_vote_bad (b := bM b) (T := K.2.2.2.2.1) (M := M1) hbM hwf hn c (by rw [hF]; decide)
    rw [hF] at hm
    exact PairI.bad hb hS (by decide) (by decide) (wl_vote_2 hb hW (by decide) (by decide) ((cf_vote_2 hb hW hwf c hF).imp (fun _ _ z => z) (PXe.th hW))) hw hm

set_option maxRecDepth 100000 in
set_option maxHeartbeats 4000000 in
theorem pr_gust {E : Ev} {b : Nat → Nat} {K : Kt} {M : Hp} {B : Nat} (hb : Lay E 162 b) (hW : Wd E b K M) (hS : Sim K B) (hB : B + 200000 < 2 ^ 26) (c : Int32) : PairI E b g0 mL_gust mX5_gust [.ref (b 0), .int c, .ref (b 160)] [.ref (b 151), .int c] M B := by
  obtain ⟨nc, nt, no, hcur, hR⟩ := id hS
  obtain ⟨hok, hw⟩ := id hcur
  obtain ⟨hwf, hn, -, -, hro, -, hse, -, hch⟩ := id hok
  obtain ⟨-, hnc6, -, hnt8, -, hno8⟩ := id hwf
  obtain ⟨-, ⟨nx, kp, fq, hrc, hrh, hrs⟩, -⟩ := id hR
  have hbM := hb.bM
  rcases gusF_rg c with hF | hF
  · skip
    have hok2 : Ok ((gusS (K.2.1 0) nt no c).1) (nc) (nt) (no) (B + 60000) := by
      have h := OkS.xD (σ := ((K.2.1 0), nc, nt, no)) (kind := 11) (p0 := c) (p1 := 0) hok (by omega) hF
      exact Ok.mono h (by omega)
    exact PairI.ok hb (wl_gust_ok hb hW (by decide) (by decide) ((cf_gust_ok hb hW hwf hn hrc _ hF hok.hmo).imp WR.rs)) hw (fun M1 => mo_gust_ok hbM hwf hrh _ hF hn hok.hmo) rfl (fun lo => hR.change (by omega) hcur hrc hrh hrs hok2 lo)
  · have hm : ∀ M1, _ := fun M1 => mo_gust_bad (b := bM b) (T := K.2.2.2.2.1) (M := M1) hbM hwf c (by rw [hF]; decide)
    exact PairI.bad hb hS (by decide) (by decide) (wl_gust_1 hb hW (by decide) (by decide) ((cf_gust_1 hb hW hwf c hF).imp (fun _ _ z => z) (PXe.th hW))) hw hm

set_option maxRecDepth 100000 in
set_option maxHeartbeats 4000000 in
theorem pr_pass {E : Ev} {b : Nat → Nat} {K : Kt} {M : Hp} {B : Nat} (hb : Lay E 162 b) (hW : Wd E b K M) (hS : Sim K B) (hB : B + 200000 < 2 ^ 26) (c : Int32) : PairI E b g0 mL_pass mX5_pass [.ref (b 0), .int c, .ref (b 160)] [.ref (b 151), .int c] M B := by
  obtain ⟨nc, nt, no, hcur, hR⟩ := id hS
  obtain ⟨hok, hw⟩ := id hcur
  obtain ⟨hwf, hn, -, -, hro, -, hse, -, hch⟩ := id hok
  obtain ⟨-, hnc6, -, hnt8, -, hno8⟩ := id hwf
  obtain ⟨-, ⟨nx, kp, fq, hrc, hrh, hrs⟩, -⟩ := id hR
  have hbM := hb.bM
  rcases pasF_rg c with hF | hF
  · obtain ⟨x, hx1, hx, rfl⟩ := pasF_0 hF
    have hok2 : Ok ((pasS (K.2.1 0) nt nc x).1) (nc) (nt) (no) (B + 60000) := by
      have h := OkS.xD (σ := ((K.2.1 0), nc, nt, no)) (kind := 12) (p0 := (nI x)) (p1 := 0) hok (by omega) hF
      have e : (xD ((K.2.1 0), nc, nt, no) 12 (nI x) 0).1 = (pasS (K.2.1 0) nt nc x).1 := by
        show (pasS (K.2.1 0) nt nc (nI x).toNatClampNeg).1 = _
        rw [nI_clamp (by omega)]
      unfold OkS at h
      rw [e] at h
      exact Ok.mono h (by omega)
    exact PairI.ok hb (wl_pass_ok hb hW (by decide) (by decide) ((cf_pass_ok hb hW hwf hn hrc _ hF (h := x) (by omega) rfl).imp WR.rs)) hw (fun M1 => mo_pass_ok hbM hwf hrh _ hF hn (h := x) (by omega) rfl) rfl (fun lo => hR.change (by omega) hcur hrc hrh hrs hok2 lo)
  · have hm : ∀ M1, _ := fun M1 => mo_pass_bad (b := bM b) (T := K.2.2.2.2.1) (M := M1) hbM hwf c (by rw [hF]; decide)
    exact PairI.bad hb hS (by decide) (by decide) (wl_pass_1 hb hW (by decide) (by decide) ((cf_pass_1 hb hW hwf c hF).imp (fun _ _ z => z) (PXe.th hW))) hw hm

