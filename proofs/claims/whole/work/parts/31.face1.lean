theorem Ct.imp {E : Ev} {μ : Mth} {av : List Value} {M : Hp} {P P' : Option Value → Hp → Prop} {mc ms : Nat} (h : ∀ v M1, P v M1 → P' v M1) (hc : Ct E μ av M P mc ms) : Ct E μ av M P' mc ms := by
  unfold Ct Met MetFree at *
  intro p e he hf hc2 s m args below h1 h2 h3 h4
  obtain ⟨n, o, g1, g2, g3, ⟨⟨⟨v, M1, ho, hp, hr⟩, hF⟩, hL⟩⟩ := hc p e he hf hc2 s m args below h1 h2 h3 h4
  exact ⟨n, o, g1, g2, g3, ⟨⟨v, M1, ho, h v M1 hp, hr⟩, hF⟩, hL⟩
/-- it returns r, and the world is K1's -/
def WR (E : Ev) (b : Nat → Nat) (r : Option Value) (K1 : Kt) : Option Value → Hp → Prop := fun v M1 => v = r ∧ Wd E b K1 M1
section
variable {E : Ev} {b : Nat → Nat} {K : Kt} {M : Hp} {μ : Mth} {av : List Value} {r : Option Value} {mc ms : Nat}
theorem Ct.rdS (hb : Lay E 162 b) (hW : Wd E b K M) {i : Nat} (hi : i < 11) {S : St} (hS : K.2.1 i = S) (hc : Ct E μ av (StP E (bS b i) S M) (eqR r (StP E (bS b i) S M)) mc ms) : Ct E μ av M (eqR r M) mc ms := by
  subst hS
  exact Ct.rd (hW.has hb hi) hc
theorem Ct.stwS (hb : Lay E 162 b) (hW : Wd E b K M) {i : Nat} (hi : i < 11) {S S1 : St} (hS : K.2.1 i = S) (hc : Ct E μ av (StP E (bS b i) S M) (eqR r (StP E (bS b i) S1 M)) mc ms) : Ct E μ av M (WR E b r (kSs K i S1)) mc ms := by
  subst hS
  exact (Ct.wr (hW.has hb hi) hc).imp (by rintro v M1 ⟨rfl, rfl⟩; exact ⟨rfl, hW.st hb hi S1⟩)
theorem Ct.cpW (hb : Lay E 162 b) (hW : Wd E b K M) {i j : Nat} (hi : i < 11) (hj : j < 11) (hij : i ≠ j) {nc nt no : Nat} (hwf : Wf (K.2.1 j) nc nt no) (hn : Nar (K.2.1 j)) : Ct E mX3_copyFrom [.ref (bS b i 0), .ref (bS b j 0)] M (WR E b none (kSs K i (copS (K.2.1 i) (K.2.1 j) nc nt no))) 0 0 := by
  have h := ct_copyS (S := K.2.1 i) (T := K.2.1 j) (M := M) (hb.bS hi) (hb.bS hj) (bS_ap hb hi hj hij) hwf hn
  rw [hW.has hb hj, hW.has hb hi] at h
  exact h.imp (by rintro v M1 ⟨rfl, rfl⟩; exact ⟨rfl, hW.st hb hi _⟩)
end
section LW
variable {E : Ev} {X : Cx0} {μ : Mth} {Q : State → Prop} {pc q : Nat} {ls st : List Value} {M : Hp} {nc ns a : Nat} {b : Nat → Nat}
theorem gq_putW (hX : Cx E X μ) {idx ci k N : Nat} {C : String} {T : u_T} {ty : Nat → FieldType} {fs : List Value} {v : Value} {K1 : Kt} (d : decode μ.2.1 pc = .ok (.putfield idx, 3)) (hq : pc + 3 = q) (hf : FldG μ.1.cls idx ci k C T N ty) (hfin : (T k).2.2.2 = false) (hn : narrow (ty k) v = v) (hfit : fits (ty k) v = true) (hM : M a = some (.inr (ci, fs))) (hl : k < fs.length) (ha : E.2.2.1 ≤ a) (hu : Wd E b K1 (hput M a (.inr (ci, fs.set k v)))) (kk : ∀ M1, Wd E b K1 M1 → Gq E X μ Q q ls st M1 nc ns) : Gq E X μ Q pc ls (v :: .ref a :: st) M nc ns :=
  gq_putf hX d hq hf hfin hn hfit hM hl ha rfl (kk _ hu)
theorem gq_callVw (hX : Cx E X μ) {idx a ci : Nat} {μ2 : Mth} {As rest fs : List Value} {mc ms nc1 ns1 : Nat} {r : Option Value} {K1 : Kt} (d : decode μ.2.1 pc = .ok (.invokevirtual idx, 3)) (hq : pc + 3 = q) (hc : CallV μ.1.cls idx μ2) (hct : Ct E μ2 (.ref a :: As) M (WR E b r K1) mc ms) (hst : st = As.reverse ++ .ref a :: rest) (hM : M a = some (.inr (ci, fs))) (hci : (vwCl[ci]?).map (·.1) = some μ2.1.cls) (hnp : As.length = μ2.2.2.2.2.1) (hw : (rest.map fun v => v.category).sum ≤ 8) (hd : μ2.2.2.2.2.2.1 < μ.2.2.2.2.2.1 ∧ μ2.2.2.1 ≤ 45) (hnc : mc + nc1 = nc) (hns : ms + ns1 = ns)
    (kk : ∀ M1, Wd E b K1 M1 → Gq E X μ Q q ls (r.toList ++ rest) M1 nc1 ns1) : Gq E X μ Q pc ls st M nc ns := by
  subst hq
  refine gq_callV hX d hc hct hst hM hci hnp hw hd hnc hns ?_
  rintro v M1 ⟨rfl, h⟩
  exact kk M1 h
end LW
def RgC (K : Kt) (nx kp : Nat) : Prop := K.1 4 = nI nx ∧ K.1 5 = nI kp ∧ nx < 8 ∧ kp ≤ 8
def keepK (K : Kt) (i nx kp nc nt no : Nat) : Kt := kSc (kSc (kSs K (3 + nx) (copS (K.2.1 (3 + nx)) (K.2.1 i) nc nt no)) 4 (nI ((nx + 1) % 8))) 5 (nI (if 8 < kp + 1 then 8 else kp + 1))
theorem keepK_st {K : Kt} {i nx kp nc nt no j : Nat} (h : j < 3) : (keepK K i nx kp nc nt no).2.1 j = K.2.1 j := if_neg (by omega)
theorem minI {a : Nat} (h : a < 100000) : (if nI 8 < nI a then nI 8 else nI a) = nI (if 8 < a then 8 else a) := by
  by_cases h2 : 8 < a
  · rw [if_pos h2, if_pos (nI_lt h2 (by omega))]
  · rw [if_neg h2, if_neg (nI_nlt (by omega) (by omega))]
theorem ringAt {b : Nat → Nat} {nx : Nat} (h : nx < 8) : (fun i => if i < 8 then some (b (45 + 13 * i)) else none) (nI nx).toNatClampNeg = some (bS b (3 + nx) 0) := by
  show (if (nI nx).toNatClampNeg < 8 then some (b (45 + 13 * (nI nx).toNatClampNeg)) else none) = _
  rw [nI_clamp (by omega), if_pos h]
  unfold bS
  rw [show 6 + 13 * (3 + nx) + 0 = 45 + 13 * nx by omega]

set_option maxRecDepth 100000 in
set_option maxHeartbeats 4000000 in
theorem ch_keep0 {E : Ev} {b : Nat → Nat} {K : Kt} {M : Hp} (hb : Lay E 162 b) (hW : Wd E b K M) {nc nt no nx kp : Nat} (hwf : Wf (K.2.1 0) nc nt no) (hn : Nar (K.2.1 0)) (hr : RgC K nx kp) : Ct E mX1_keep [.ref (b 1), .ref (bS b 0 0)] M (WR E b (none) (keepK K 0 nx kp nc nt no)) 0 0 := by
  refine Ct.of gmX1_keep (ls := [.ref (b 1), .ref (bS b 0 0), hole]) rfl rfl (Nat.le_of_ble_eq_true rfl) ?_
  intro X hX Q hQ
  obtain ⟨hnx, hkp, hn8, hk8⟩ := hr
  refine gq_aload_n hX dX1_keep_0 rfl rfl rfl ?_
  refine gq_getf hX dX1_keep_1 rfl fX1_11 hW.c1 rfl ?_
  refine gq_aload_n hX dX1_keep_4 rfl rfl rfl ?_
  refine gq_getf hX dX1_keep_5 rfl fX1_17 hW.c1 rfl ?_
  rw [hnx]
  refine gq_qald hX dX1_keep_8 rfl hW.c2 (vp_in_nI hn8 (by omega)) (ringAt hn8) ?_
  refine gq_astore_n hX dX1_keep_9 rfl rfl (Nat.le_of_ble_eq_true rfl) rfl ?_
  refine gq_aload_n hX dX1_keep_10 rfl rfl rfl ?_
  refine gq_ifnull hX dX1_keep_11 rfl ?_
  refine gq_aload_n hX dX1_keep_14 rfl rfl rfl ?_
  refine gq_aload_n hX dX1_keep_15 rfl rfl rfl ?_
  refine gq_callVw hX dX1_keep_16 rfl vX1_25 (Ct.cpW hb hW (i := 3 + nx) (j := 0) (by omega) (by decide) (by omega) hwf hn) rfl (hW.s0 (by omega)) rfl rfl (Nat.le_of_ble_eq_true rfl) ⟨(Nat.le_of_ble_eq_true rfl), (Nat.le_of_ble_eq_true rfl)⟩ (Nat.zero_add _) (Nat.zero_add _) ?_
  intro M2 hW2
  refine gq_aload_n hX dX1_keep_19 rfl rfl rfl ?_
  refine gq_aload_n hX dX1_keep_20 rfl rfl rfl ?_
  refine gq_getf hX dX1_keep_21 rfl fX1_17 hW2.c1 rfl ?_
  refine gq_iconst (v := nI 1) hX dX1_keep_24 rfl (by decide) ?_
  refine gq_iadd hX dX1_keep_25 rfl ?_
  rw [show (kSs K (3 + nx) (copS (K.2.1 (3 + nx)) (K.2.1 0) nc nt no)).1 4 = nI nx from hnx, inM]
  refine gq_bipush (v := nI 8) hX dX1_keep_26 rfl (by decide) ?_
  refine gq_irem hX dX1_keep_28 rfl (by decide) ?_
  rw [m8 (by omega)]
  refine gq_putW hX dX1_keep_29 rfl fX1_17 rfl rfl rfl hW2.c1 (Nat.le_of_ble_eq_true rfl) (hb.2 1 (by decide)) (hW2.w1_1 hb _) ?_
  intro M3 hW3
  refine gq_aload_n hX dX1_keep_32 rfl rfl rfl ?_
  refine gq_aload_n hX dX1_keep_33 rfl rfl rfl ?_
  refine gq_getf hX dX1_keep_34 rfl fX1_21 hW3.c1 rfl ?_
  refine gq_iconst (v := nI 1) hX dX1_keep_37 rfl (by decide) ?_
  refine gq_iadd hX dX1_keep_38 rfl ?_
  rw [show (kSc (kSs K (3 + nx) (copS (K.2.1 (3 + nx)) (K.2.1 0) nc nt no)) 4 (nI ((nx + 1) % 8))).1 5 = nI kp from hkp, inM]
  refine gq_bipush (v := nI 8) hX dX1_keep_39 rfl (by decide) ?_
  refine gq_mmin hX dX1_keep_41 rfl nX1_29 (Nat.le_of_ble_eq_true rfl) (Nat.le_of_ble_eq_true rfl) ?_
  rw [minI (by omega)]
  refine gq_putW hX dX1_keep_44 rfl fX1_21 rfl rfl rfl hW3.c1 (Nat.le_of_ble_eq_true rfl) (hb.2 1 (by decide)) (hW3.w1_2 hb _) ?_
  intro M4 hW4
  exact gq_vret hX hQ dX1_keep_47 rfl ⟨rfl, hW4⟩

set_option maxRecDepth 100000 in
set_option maxHeartbeats 4000000 in
theorem ch_keep1 {E : Ev} {b : Nat → Nat} {K : Kt} {M : Hp} (hb : Lay E 162 b) (hW : Wd E b K M) {nc nt no nx kp : Nat} (hwf : Wf (K.2.1 1) nc nt no) (hn : Nar (K.2.1 1)) (hr : RgC K nx kp) : Ct E mX1_keep [.ref (b 1), .ref (bS b 1 0)] M (WR E b (none) (keepK K 1 nx kp nc nt no)) 0 0 := by
  refine Ct.of gmX1_keep (ls := [.ref (b 1), .ref (bS b 1 0), hole]) rfl rfl (Nat.le_of_ble_eq_true rfl) ?_
  intro X hX Q hQ
  obtain ⟨hnx, hkp, hn8, hk8⟩ := hr
  refine gq_aload_n hX dX1_keep_0 rfl rfl rfl ?_
  refine gq_getf hX dX1_keep_1 rfl fX1_11 hW.c1 rfl ?_
  refine gq_aload_n hX dX1_keep_4 rfl rfl rfl ?_
  refine gq_getf hX dX1_keep_5 rfl fX1_17 hW.c1 rfl ?_
  rw [hnx]
  refine gq_qald hX dX1_keep_8 rfl hW.c2 (vp_in_nI hn8 (by omega)) (ringAt hn8) ?_
  refine gq_astore_n hX dX1_keep_9 rfl rfl (Nat.le_of_ble_eq_true rfl) rfl ?_
  refine gq_aload_n hX dX1_keep_10 rfl rfl rfl ?_
  refine gq_ifnull hX dX1_keep_11 rfl ?_
  refine gq_aload_n hX dX1_keep_14 rfl rfl rfl ?_
  refine gq_aload_n hX dX1_keep_15 rfl rfl rfl ?_
  refine gq_callVw hX dX1_keep_16 rfl vX1_25 (Ct.cpW hb hW (i := 3 + nx) (j := 1) (by omega) (by decide) (by omega) hwf hn) rfl (hW.s0 (by omega)) rfl rfl (Nat.le_of_ble_eq_true rfl) ⟨(Nat.le_of_ble_eq_true rfl), (Nat.le_of_ble_eq_true rfl)⟩ (Nat.zero_add _) (Nat.zero_add _) ?_
  intro M2 hW2
  refine gq_aload_n hX dX1_keep_19 rfl rfl rfl ?_
  refine gq_aload_n hX dX1_keep_20 rfl rfl rfl ?_
  refine gq_getf hX dX1_keep_21 rfl fX1_17 hW2.c1 rfl ?_
  refine gq_iconst (v := nI 1) hX dX1_keep_24 rfl (by decide) ?_
  refine gq_iadd hX dX1_keep_25 rfl ?_
  rw [show (kSs K (3 + nx) (copS (K.2.1 (3 + nx)) (K.2.1 1) nc nt no)).1 4 = nI nx from hnx, inM]
  refine gq_bipush (v := nI 8) hX dX1_keep_26 rfl (by decide) ?_
  refine gq_irem hX dX1_keep_28 rfl (by decide) ?_
  rw [m8 (by omega)]
  refine gq_putW hX dX1_keep_29 rfl fX1_17 rfl rfl rfl hW2.c1 (Nat.le_of_ble_eq_true rfl) (hb.2 1 (by decide)) (hW2.w1_1 hb _) ?_
  intro M3 hW3
  refine gq_aload_n hX dX1_keep_32 rfl rfl rfl ?_
  refine gq_aload_n hX dX1_keep_33 rfl rfl rfl ?_
  refine gq_getf hX dX1_keep_34 rfl fX1_21 hW3.c1 rfl ?_
  refine gq_iconst (v := nI 1) hX dX1_keep_37 rfl (by decide) ?_
  refine gq_iadd hX dX1_keep_38 rfl ?_
  rw [show (kSc (kSs K (3 + nx) (copS (K.2.1 (3 + nx)) (K.2.1 1) nc nt no)) 4 (nI ((nx + 1) % 8))).1 5 = nI kp from hkp, inM]
  refine gq_bipush (v := nI 8) hX dX1_keep_39 rfl (by decide) ?_
  refine gq_mmin hX dX1_keep_41 rfl nX1_29 (Nat.le_of_ble_eq_true rfl) (Nat.le_of_ble_eq_true rfl) ?_
  rw [minI (by omega)]
  refine gq_putW hX dX1_keep_44 rfl fX1_21 rfl rfl rfl hW3.c1 (Nat.le_of_ble_eq_true rfl) (hb.2 1 (by decide)) (hW3.w1_2 hb _) ?_
  intro M4 hW4
  exact gq_vret hX hQ dX1_keep_47 rfl ⟨rfl, hW4⟩

def backK (K : Kt) (nx kp nc nt no : Nat) : Kt := kSs (kSc (kSc K 4 (nI ((nx + 7) % 8))) 5 (nI kp)) 0 (copS (K.2.1 0) (K.2.1 (3 + (nx + 7) % 8)) nc nt no)
set_option maxRecDepth 100000 in
set_option maxHeartbeats 4000000 in
theorem ch_back {E : Ev} {b : Nat → Nat} {K : Kt} {M : Hp} (hb : Lay E 162 b) (hW : Wd E b K M) {nc nt no nx kp : Nat} (hr : RgC K nx (kp + 1)) (hwf : Wf (K.2.1 (3 + (nx + 7) % 8)) nc nt no) (hn : Nar (K.2.1 (3 + (nx + 7) % 8))) : Ct E mX1_takeBack [.ref (b 1), .ref (bS b 0 0)] M (WR E b (none) (backK K nx kp nc nt no)) 0 0 := by
  refine Ct.of gmX1_takeBack (ls := [.ref (b 1), .ref (bS b 0 0), hole]) rfl rfl (Nat.le_of_ble_eq_true rfl) ?_
  intro X hX Q hQ
  obtain ⟨hnx, hkp, hn8, hk8⟩ := hr
  refine gq_aload_n hX dX1_takeBack_0 rfl rfl rfl ?_
  refine gq_aload_n hX dX1_takeBack_1 rfl rfl rfl ?_
  refine gq_getf hX dX1_takeBack_2 rfl fX1_17 hW.c1 rfl ?_
  refine gq_bipush (v := nI 8) hX dX1_takeBack_5 rfl (by decide) ?_
  refine gq_iadd hX dX1_takeBack_7 rfl ?_
  rw [hnx, nI_add]
  refine gq_iconst (v := nI 1) hX dX1_takeBack_8 rfl (by decide) ?_
  refine gq_isub hX dX1_takeBack_9 rfl ?_
  rw [show nI (nx + 8) - nI 1 = nI (nx + 7) from nI_pred (nx + 7)]
  refine gq_bipush (v := nI 8) hX dX1_takeBack_10 rfl (by decide) ?_
  refine gq_irem hX dX1_takeBack_12 rfl (by decide) ?_
  rw [m8 (by omega)]
  refine gq_putW hX dX1_takeBack_13 rfl fX1_17 rfl rfl rfl hW.c1 (Nat.le_of_ble_eq_true rfl) (hb.2 1 (by decide)) (hW.w1_1 hb _) ?_
  intro M2 hW2
  refine gq_aload_n hX dX1_takeBack_16 rfl rfl rfl ?_
  refine gq_dup hX dX1_takeBack_17 rfl rfl ?_
  refine gq_getf hX dX1_takeBack_18 rfl fX1_21 hW2.c1 rfl ?_
  refine gq_iconst (v := nI 1) hX dX1_takeBack_21 rfl (by decide) ?_
  refine gq_isub hX dX1_takeBack_22 rfl ?_
  rw [show (kSc K 4 (nI ((nx + 7) % 8))).1 5 = nI (kp + 1) from hkp, dcm]
  refine gq_putW hX dX1_takeBack_23 rfl fX1_21 rfl rfl rfl hW2.c1 (Nat.le_of_ble_eq_true rfl) (hb.2 1 (by decide)) (hW2.w1_2 hb _) ?_
  intro M3 hW3
  refine gq_aload_n hX dX1_takeBack_26 rfl rfl rfl ?_
  refine gq_getf hX dX1_takeBack_27 rfl fX1_11 hW3.c1 rfl ?_
  refine gq_aload_n hX dX1_takeBack_30 rfl rfl rfl ?_
  refine gq_getf hX dX1_takeBack_31 rfl fX1_17 hW3.c1 rfl ?_
  rw [show (kSc (kSc K 4 (nI ((nx + 7) % 8))) 5 (nI kp)).1 4 = nI ((nx + 7) % 8) from rfl]
  have hm : (nx + 7) % 8 < 8 := Nat.mod_lt _ (by decide)
  refine gq_qald hX dX1_takeBack_34 rfl hW3.c2 (vp_in_nI hm (by omega)) (ringAt hm) ?_
  refine gq_astore_n hX dX1_takeBack_35 rfl rfl (Nat.le_of_ble_eq_true rfl) rfl ?_
  refine gq_aload_n hX dX1_takeBack_36 rfl rfl rfl ?_
  refine gq_ifnull hX dX1_takeBack_37 rfl ?_
  refine gq_aload_n hX dX1_takeBack_40 rfl rfl rfl ?_
  refine gq_aload_n hX dX1_takeBack_41 rfl rfl rfl ?_
  refine gq_callVw hX dX1_takeBack_42 rfl vX1_25 (Ct.cpW hb hW3 (i := 0) (j := 3 + (nx + 7) % 8) (by decide) (by omega) (by omega) hwf hn) rfl (hW3.s0 (i := 0) (by decide)) rfl rfl (Nat.le_of_ble_eq_true rfl) ⟨(Nat.le_of_ble_eq_true rfl), (Nat.le_of_ble_eq_true rfl)⟩ (Nat.zero_add _) (Nat.zero_add _) ?_
  intro M9 hW9
  exact gq_vret hX hQ dX1_takeBack_45 rfl ⟨rfl, hW9⟩

set_option maxRecDepth 100000 in
set_option maxHeartbeats 4000000 in
theorem ch_forget {E : Ev} {b : Nat → Nat} {K : Kt} {M : Hp} (hb : Lay E 162 b) (hW : Wd E b K M)  : Ct E mX1_forget [.ref (b 1)] M (WR E b (none) (kSc K 5 (nI 0))) 0 0 := by
  refine Ct.of gmX1_forget (ls := [.ref (b 1)]) rfl rfl (Nat.le_of_ble_eq_true rfl) ?_
  intro X hX Q hQ
  refine gq_aload_n hX dX1_forget_0 rfl rfl rfl ?_
  refine gq_iconst (v := nI 0) hX dX1_forget_1 rfl (by decide) ?_
  refine gq_putW hX dX1_forget_2 rfl fX1_21 rfl rfl rfl hW.c1 (Nat.le_of_ble_eq_true rfl) (hb.2 1 (by decide)) (hW.w1_2 hb _) ?_
  intro M2 hW2
  exact gq_vret hX hQ dX1_forget_5 rfl ⟨rfl, hW2⟩

set_option maxRecDepth 100000 in
set_option maxHeartbeats 4000000 in
theorem cf_addCommittee_1 {E : Ev} {b : Nat → Nat} {K : Kt} {M : Hp} (hb : Lay E 162 b) (hW : Wd E b K M) {nc nt no : Nat} (hwf : Wf (K.2.1 0) nc nt no) (m : Int32) (hF : comF (K.2.1 0) m = nI 1) : CtX E mX4_addCommittee [.ref (b 0), .int m] M NoR (PXe "java/lang/IllegalArgumentException" M) 1 6 := by
  refine CtX.of gmX4_addCommittee (ls := [.ref (b 0), .int m, hole]) rfl rfl (Nat.le_of_ble_eq_true rfl) ?_
  intro X hX Q hQ hQ2
  have hwf2 := hwf
  obtain ⟨hnc, hncl, hnt, hntl, hno, hnol⟩ := hwf2
  refine gq_aload_n hX dX4_addCommittee_0 rfl rfl rfl ?_
  refine gq_getf hX dX4_addCommittee_1 rfl fX4_10 hW.c0 rfl ?_
  refine gq_iload_n hX dX4_addCommittee_4 rfl rfl rfl ?_
  refine gq_callVe hX dX4_addCommittee_5 rfl vX4_57 (Ct.rdS hb hW (i := 0) (by decide) rfl (ct_committeeFault (hb.bS (i := 0) (by decide)) _)) rfl (hW.s0 (i := 0) (by decide)) rfl rfl (Nat.le_of_ble_eq_true rfl) ⟨(Nat.le_of_ble_eq_true rfl), (Nat.le_of_ble_eq_true rfl)⟩ (Nat.zero_add _) (Nat.zero_add _) ?_
  refine gq_istore_n hX dX4_addCommittee_8 rfl rfl (Nat.le_of_ble_eq_true rfl) rfl ?_
  refine gq_iload_n hX dX4_addCommittee_9 rfl rfl rfl ?_
  refine gq_iconst (v := nI 1) hX dX4_addCommittee_10 rfl (by decide) ?_
  refine gq_icmp_neF (tgt := 24) hX dX4_addCommittee_11 rfl rfl hF ?_
  exact gq_throw hX hQ2 rfl th61 rfl (List.mem_of_getElem? (i := 2) rfl) dX4_addCommittee_14 dX4_addCommittee_17 dX4_addCommittee_18 dX4_addCommittee_20 dX4_addCommittee_23 (Nat.le_of_ble_eq_true rfl) (Nat.le_of_ble_eq_true rfl) (Nat.le_of_ble_eq_true rfl) (Nat.le_of_ble_eq_true rfl) ⟨rfl, rfl⟩

set_option maxRecDepth 100000 in
set_option maxHeartbeats 4000000 in
theorem cf_addCommittee_2 {E : Ev} {b : Nat → Nat} {K : Kt} {M : Hp} (hb : Lay E 162 b) (hW : Wd E b K M) {nc nt no : Nat} (hwf : Wf (K.2.1 0) nc nt no) (m : Int32) (hF : comF (K.2.1 0) m = nI 2) : CtX E mX4_addCommittee [.ref (b 0), .int m] M NoR (PXe "java/lang/IllegalStateException" M) 1 6 := by
  refine CtX.of gmX4_addCommittee (ls := [.ref (b 0), .int m, hole]) rfl rfl (Nat.le_of_ble_eq_true rfl) ?_
  intro X hX Q hQ hQ2
  have hwf2 := hwf
  obtain ⟨hnc, hncl, hnt, hntl, hno, hnol⟩ := hwf2
  refine gq_aload_n hX dX4_addCommittee_0 rfl rfl rfl ?_
  refine gq_getf hX dX4_addCommittee_1 rfl fX4_10 hW.c0 rfl ?_
  refine gq_iload_n hX dX4_addCommittee_4 rfl rfl rfl ?_
  refine gq_callVe hX dX4_addCommittee_5 rfl vX4_57 (Ct.rdS hb hW (i := 0) (by decide) rfl (ct_committeeFault (hb.bS (i := 0) (by decide)) _)) rfl (hW.s0 (i := 0) (by decide)) rfl rfl (Nat.le_of_ble_eq_true rfl) ⟨(Nat.le_of_ble_eq_true rfl), (Nat.le_of_ble_eq_true rfl)⟩ (Nat.zero_add _) (Nat.zero_add _) ?_
  refine gq_istore_n hX dX4_addCommittee_8 rfl rfl (Nat.le_of_ble_eq_true rfl) rfl ?_
  refine gq_iload_n hX dX4_addCommittee_9 rfl rfl rfl ?_
  refine gq_iconst (v := nI 1) hX dX4_addCommittee_10 rfl (by decide) ?_
  refine gq_icmp_neT (tgt := 24) hX dX4_addCommittee_11 rfl (by rw [hF]; decide) ?_
  refine gq_iload_n hX dX4_addCommittee_24 rfl rfl rfl ?_
  refine gq_iconst (v := nI 2) hX dX4_addCommittee_25 rfl (by decide) ?_
  refine gq_icmp_neF (tgt := 39) hX dX4_addCommittee_26 rfl rfl hF ?_
  exact gq_throw hX hQ2 rfl th68 rfl (List.mem_of_getElem? (i := 3) rfl) dX4_addCommittee_29 dX4_addCommittee_32 dX4_addCommittee_33 dX4_addCommittee_35 dX4_addCommittee_38 (Nat.le_of_ble_eq_true rfl) (Nat.le_of_ble_eq_true rfl) (Nat.le_of_ble_eq_true rfl) (Nat.le_of_ble_eq_true rfl) ⟨rfl, rfl⟩

set_option maxRecDepth 100000 in
set_option maxHeartbeats 4000000 in
theorem cf_addCommittee_ok {E : Ev} {b : Nat → Nat} {K : Kt} {M : Hp} (hb : Lay E 162 b) (hW : Wd E b K M) {nc nt no : Nat} (hwf : Wf (K.2.1 0) nc nt no) (hn : Nar (K.2.1 0)) {nx kp : Nat} (hr : RgC K nx kp) (m : Int32) (hF : comF (K.2.1 0) m = 0) (hlt : nc < 6) : Ct E mX4_addCommittee [.ref (b 0), .int m] M (WR E b (some (.int (nI nc))) (kSs (keepK K 0 nx kp nc nt no) 0 (comS (K.2.1 0) nc m))) 0 0 := by
  refine Ct.of gmX4_addCommittee (ls := [.ref (b 0), .int m, hole]) rfl rfl (Nat.le_of_ble_eq_true rfl) ?_
  intro X hX Q hQ
  have hwf2 := hwf
  obtain ⟨hnc, hncl, hnt, hntl, hno, hnol⟩ := hwf2
  refine gq_aload_n hX dX4_addCommittee_0 rfl rfl rfl ?_
  refine gq_getf hX dX4_addCommittee_1 rfl fX4_10 hW.c0 rfl ?_
  refine gq_iload_n hX dX4_addCommittee_4 rfl rfl rfl ?_
  refine gq_callVe hX dX4_addCommittee_5 rfl vX4_57 (Ct.rdS hb hW (i := 0) (by decide) rfl (ct_committeeFault (hb.bS (i := 0) (by decide)) _)) rfl (hW.s0 (i := 0) (by decide)) rfl rfl (Nat.le_of_ble_eq_true rfl) ⟨(Nat.le_of_ble_eq_true rfl), (Nat.le_of_ble_eq_true rfl)⟩ (Nat.zero_add _) (Nat.zero_add _) ?_
  refine gq_istore_n hX dX4_addCommittee_8 rfl rfl (Nat.le_of_ble_eq_true rfl) rfl ?_
  refine gq_iload_n hX dX4_addCommittee_9 rfl rfl rfl ?_
  refine gq_iconst (v := nI 1) hX dX4_addCommittee_10 rfl (by decide) ?_
  refine gq_icmp_neT (tgt := 24) hX dX4_addCommittee_11 rfl (by rw [hF]; decide) ?_
  refine gq_iload_n hX dX4_addCommittee_24 rfl rfl rfl ?_
  refine gq_iconst (v := nI 2) hX dX4_addCommittee_25 rfl (by decide) ?_
  refine gq_icmp_neT (tgt := 39) hX dX4_addCommittee_26 rfl (by rw [hF]; decide) ?_
  refine gq_aload_n hX dX4_addCommittee_39 rfl rfl rfl ?_
  refine gq_getf hX dX4_addCommittee_40 rfl fX4_29 hW.c0 rfl ?_
  refine gq_aload_n hX dX4_addCommittee_43 rfl rfl rfl ?_
  refine gq_getf hX dX4_addCommittee_44 rfl fX4_10 hW.c0 rfl ?_
  refine gq_callVw hX dX4_addCommittee_47 rfl vX4_73 (ch_keep0 hb hW hwf hn hr) rfl hW.c1 rfl rfl (Nat.le_of_ble_eq_true rfl) ⟨(Nat.le_of_ble_eq_true rfl), (Nat.le_of_ble_eq_true rfl)⟩ (Nat.zero_add _) (Nat.zero_add _) ?_
  intro M2 hW2
  refine gq_aload_n hX dX4_addCommittee_50 rfl rfl rfl ?_
  refine gq_getf hX dX4_addCommittee_51 rfl fX4_10 hW2.c0 rfl ?_
  refine gq_iload_n hX dX4_addCommittee_54 rfl rfl rfl ?_
  refine gq_callVw hX dX4_addCommittee_55 rfl vX4_77 (Ct.stwS hb hW2 (i := 0) (by decide) (keepK_st (by decide)) (ct_enterCommittee (hb.bS (i := 0) (by decide)) hwf hlt _)) rfl (hW2.s0 (i := 0) (by decide)) rfl rfl (Nat.le_of_ble_eq_true rfl) ⟨(Nat.le_of_ble_eq_true rfl), (Nat.le_of_ble_eq_true rfl)⟩ (Nat.zero_add _) (Nat.zero_add _) ?_
  intro M3 hW3
  exact gq_iret hX hQ dX4_addCommittee_58 rfl ⟨rfl, hW3⟩

set_option maxRecDepth 100000 in
set_option maxHeartbeats 4000000 in
theorem cf_addTail_1 {E : Ev} {b : Nat → Nat} {K : Kt} {M : Hp} (hb : Lay E 162 b) (hW : Wd E b K M) {nc nt no : Nat} (hwf : Wf (K.2.1 0) nc nt no) (m : Int32) (hF : taiF (K.2.1 0) m = nI 1) : CtX E mX4_addTail [.ref (b 0), .int m] M NoR (PXe "java/lang/IllegalArgumentException" M) 1 6 := by
  refine CtX.of gmX4_addTail (ls := [.ref (b 0), .int m, hole]) rfl rfl (Nat.le_of_ble_eq_true rfl) ?_
  intro X hX Q hQ hQ2
  have hwf2 := hwf
  obtain ⟨hnc, hncl, hnt, hntl, hno, hnol⟩ := hwf2
  refine gq_aload_n hX dX4_addTail_0 rfl rfl rfl ?_
  refine gq_getf hX dX4_addTail_1 rfl fX4_10 hW.c0 rfl ?_
  refine gq_iload_n hX dX4_addTail_4 rfl rfl rfl ?_
  refine gq_callVe hX dX4_addTail_5 rfl vX4_80 (Ct.rdS hb hW (i := 0) (by decide) rfl (ct_tailFault (hb.bS (i := 0) (by decide)) _)) rfl (hW.s0 (i := 0) (by decide)) rfl rfl (Nat.le_of_ble_eq_true rfl) ⟨(Nat.le_of_ble_eq_true rfl), (Nat.le_of_ble_eq_true rfl)⟩ (Nat.zero_add _) (Nat.zero_add _) ?_
  refine gq_istore_n hX dX4_addTail_8 rfl rfl (Nat.le_of_ble_eq_true rfl) rfl ?_
  refine gq_iload_n hX dX4_addTail_9 rfl rfl rfl ?_
  refine gq_iconst (v := nI 1) hX dX4_addTail_10 rfl (by decide) ?_
  refine gq_icmp_neF (tgt := 24) hX dX4_addTail_11 rfl rfl hF ?_
  exact gq_throw hX hQ2 rfl th61 rfl (List.mem_of_getElem? (i := 4) rfl) dX4_addTail_14 dX4_addTail_17 dX4_addTail_18 dX4_addTail_20 dX4_addTail_23 (Nat.le_of_ble_eq_true rfl) (Nat.le_of_ble_eq_true rfl) (Nat.le_of_ble_eq_true rfl) (Nat.le_of_ble_eq_true rfl) ⟨rfl, rfl⟩

set_option maxRecDepth 100000 in
set_option maxHeartbeats 4000000 in
theorem cf_addTail_2 {E : Ev} {b : Nat → Nat} {K : Kt} {M : Hp} (hb : Lay E 162 b) (hW : Wd E b K M) {nc nt no : Nat} (hwf : Wf (K.2.1 0) nc nt no) (m : Int32) (hF : taiF (K.2.1 0) m = nI 2) : CtX E mX4_addTail [.ref (b 0), .int m] M NoR (PXe "java/lang/IllegalStateException" M) 1 6 := by
  refine CtX.of gmX4_addTail (ls := [.ref (b 0), .int m, hole]) rfl rfl (Nat.le_of_ble_eq_true rfl) ?_
  intro X hX Q hQ hQ2
  have hwf2 := hwf
  obtain ⟨hnc, hncl, hnt, hntl, hno, hnol⟩ := hwf2
  refine gq_aload_n hX dX4_addTail_0 rfl rfl rfl ?_
  refine gq_getf hX dX4_addTail_1 rfl fX4_10 hW.c0 rfl ?_
  refine gq_iload_n hX dX4_addTail_4 rfl rfl rfl ?_
  refine gq_callVe hX dX4_addTail_5 rfl vX4_80 (Ct.rdS hb hW (i := 0) (by decide) rfl (ct_tailFault (hb.bS (i := 0) (by decide)) _)) rfl (hW.s0 (i := 0) (by decide)) rfl rfl (Nat.le_of_ble_eq_true rfl) ⟨(Nat.le_of_ble_eq_true rfl), (Nat.le_of_ble_eq_true rfl)⟩ (Nat.zero_add _) (Nat.zero_add _) ?_
  refine gq_istore_n hX dX4_addTail_8 rfl rfl (Nat.le_of_ble_eq_true rfl) rfl ?_
  refine gq_iload_n hX dX4_addTail_9 rfl rfl rfl ?_
  refine gq_iconst (v := nI 1) hX dX4_addTail_10 rfl (by decide) ?_
  refine gq_icmp_neT (tgt := 24) hX dX4_addTail_11 rfl (by rw [hF]; decide) ?_
  refine gq_iload_n hX dX4_addTail_24 rfl rfl rfl ?_
  refine gq_iconst (v := nI 2) hX dX4_addTail_25 rfl (by decide) ?_
  refine gq_icmp_neF (tgt := 39) hX dX4_addTail_26 rfl rfl hF ?_
  exact gq_throw hX hQ2 rfl th68 rfl (List.mem_of_getElem? (i := 5) rfl) dX4_addTail_29 dX4_addTail_32 dX4_addTail_33 dX4_addTail_35 dX4_addTail_38 (Nat.le_of_ble_eq_true rfl) (Nat.le_of_ble_eq_true rfl) (Nat.le_of_ble_eq_true rfl) (Nat.le_of_ble_eq_true rfl) ⟨rfl, rfl⟩

set_option maxRecDepth 100000 in
set_option maxHeartbeats 4000000 in
theorem cf_addTail_ok {E : Ev} {b : Nat → Nat} {K : Kt} {M : Hp} (hb : Lay E 162 b) (hW : Wd E b K M) {nc nt no : Nat} (hwf : Wf (K.2.1 0) nc nt no) (hn : Nar (K.2.1 0)) {nx kp : Nat} (hr : RgC K nx kp) (m : Int32) (hF : taiF (K.2.1 0) m = 0) (hlt : nt < 8) : Ct E mX4_addTail [.ref (b 0), .int m] M (WR E b (some (.int (nI nt))) (kSs (keepK K 0 nx kp nc nt no) 0 (taiS (K.2.1 0) nt m))) 0 0 := by
  refine Ct.of gmX4_addTail (ls := [.ref (b 0), .int m, hole]) rfl rfl (Nat.le_of_ble_eq_true rfl) ?_
  intro X hX Q hQ
  have hwf2 := hwf
  obtain ⟨hnc, hncl, hnt, hntl, hno, hnol⟩ := hwf2
  refine gq_aload_n hX dX4_addTail_0 rfl rfl rfl ?_
  refine gq_getf hX dX4_addTail_1 rfl fX4_10 hW.c0 rfl ?_
  refine gq_iload_n hX dX4_addTail_4 rfl rfl rfl ?_
  refine gq_callVe hX dX4_addTail_5 rfl vX4_80 (Ct.rdS hb hW (i := 0) (by decide) rfl (ct_tailFault (hb.bS (i := 0) (by decide)) _)) rfl (hW.s0 (i := 0) (by decide)) rfl rfl (Nat.le_of_ble_eq_true rfl) ⟨(Nat.le_of_ble_eq_true rfl), (Nat.le_of_ble_eq_true rfl)⟩ (Nat.zero_add _) (Nat.zero_add _) ?_
  refine gq_istore_n hX dX4_addTail_8 rfl rfl (Nat.le_of_ble_eq_true rfl) rfl ?_
  refine gq_iload_n hX dX4_addTail_9 rfl rfl rfl ?_
  refine gq_iconst (v := nI 1) hX dX4_addTail_10 rfl (by decide) ?_
  refine gq_icmp_neT (tgt := 24) hX dX4_addTail_11 rfl (by rw [hF]; decide) ?_
  refine gq_iload_n hX dX4_addTail_24 rfl rfl rfl ?_
  refine gq_iconst (v := nI 2) hX dX4_addTail_25 rfl (by decide) ?_
  refine gq_icmp_neT (tgt := 39) hX dX4_addTail_26 rfl (by rw [hF]; decide) ?_
  refine gq_aload_n hX dX4_addTail_39 rfl rfl rfl ?_
  refine gq_getf hX dX4_addTail_40 rfl fX4_29 hW.c0 rfl ?_
  refine gq_aload_n hX dX4_addTail_43 rfl rfl rfl ?_
  refine gq_getf hX dX4_addTail_44 rfl fX4_10 hW.c0 rfl ?_
  refine gq_callVw hX dX4_addTail_47 rfl vX4_73 (ch_keep0 hb hW hwf hn hr) rfl hW.c1 rfl rfl (Nat.le_of_ble_eq_true rfl) ⟨(Nat.le_of_ble_eq_true rfl), (Nat.le_of_ble_eq_true rfl)⟩ (Nat.zero_add _) (Nat.zero_add _) ?_
  intro M2 hW2
  refine gq_aload_n hX dX4_addTail_50 rfl rfl rfl ?_
  refine gq_getf hX dX4_addTail_51 rfl fX4_10 hW2.c0 rfl ?_
  refine gq_iload_n hX dX4_addTail_54 rfl rfl rfl ?_
  refine gq_callVw hX dX4_addTail_55 rfl vX4_87 (Ct.stwS hb hW2 (i := 0) (by decide) (keepK_st (by decide)) (ct_enterTail (hb.bS (i := 0) (by decide)) hwf hlt _)) rfl (hW2.s0 (i := 0) (by decide)) rfl rfl (Nat.le_of_ble_eq_true rfl) ⟨(Nat.le_of_ble_eq_true rfl), (Nat.le_of_ble_eq_true rfl)⟩ (Nat.zero_add _) (Nat.zero_add _) ?_
  intro M3 hW3
  exact gq_iret hX hQ dX4_addTail_58 rfl ⟨rfl, hW3⟩

set_option maxRecDepth 100000 in
set_option maxHeartbeats 4000000 in
theorem cf_pay_1 {E : Ev} {b : Nat → Nat} {K : Kt} {M : Hp} (hb : Lay E 162 b) (hW : Wd E b K M) {nc nt no : Nat} (hwf : Wf (K.2.1 0) nc nt no) (c0 x : Int32) (hF : payF (K.2.1 0) nc c0 x = nI 1) : CtX E mX4_pay [.ref (b 0), .int c0, .int x] M NoR (PXe "java/lang/IndexOutOfBoundsException" M) 1 6 := by
  refine CtX.of gmX4_pay (ls := [.ref (b 0), .int c0, .int x, hole]) rfl rfl (Nat.le_of_ble_eq_true rfl) ?_
  intro X hX Q hQ hQ2
  have hwf2 := hwf
  obtain ⟨hnc, hncl, hnt, hntl, hno, hnol⟩ := hwf2
  refine gq_aload_n hX dX4_pay_0 rfl rfl rfl ?_
  refine gq_getf hX dX4_pay_1 rfl fX4_10 hW.c0 rfl ?_
  refine gq_iload_n hX dX4_pay_4 rfl rfl rfl ?_
  refine gq_iload_n hX dX4_pay_5 rfl rfl rfl ?_
  refine gq_callVe hX dX4_pay_6 rfl vX4_90 (Ct.rdS hb hW (i := 0) (by decide) rfl (ct_payFault (hb.bS (i := 0) (by decide)) hwf _ _)) rfl (hW.s0 (i := 0) (by decide)) rfl rfl (Nat.le_of_ble_eq_true rfl) ⟨(Nat.le_of_ble_eq_true rfl), (Nat.le_of_ble_eq_true rfl)⟩ (Nat.zero_add _) (Nat.zero_add _) ?_
  refine gq_istore_n hX dX4_pay_9 rfl rfl (Nat.le_of_ble_eq_true rfl) rfl ?_
  refine gq_iload_n hX dX4_pay_10 rfl rfl rfl ?_
  refine gq_iconst (v := nI 1) hX dX4_pay_11 rfl (by decide) ?_
  refine gq_icmp_neF (tgt := 25) hX dX4_pay_12 rfl rfl hF ?_
  exact gq_throw hX hQ2 rfl th94 rfl (List.mem_of_getElem? (i := 0) rfl) dX4_pay_15 dX4_pay_18 dX4_pay_19 dX4_pay_21 dX4_pay_24 (Nat.le_of_ble_eq_true rfl) (Nat.le_of_ble_eq_true rfl) (Nat.le_of_ble_eq_true rfl) (Nat.le_of_ble_eq_true rfl) ⟨rfl, rfl⟩

set_option maxRecDepth 100000 in
set_option maxHeartbeats 4000000 in
theorem cf_pay_2 {E : Ev} {b : Nat → Nat} {K : Kt} {M : Hp} (hb : Lay E 162 b) (hW : Wd E b K M) {nc nt no : Nat} (hwf : Wf (K.2.1 0) nc nt no) (c0 x : Int32) (hF : payF (K.2.1 0) nc c0 x = nI 2) : CtX E mX4_pay [.ref (b 0), .int c0, .int x] M NoR (PXe "java/lang/IllegalArgumentException" M) 1 6 := by
  refine CtX.of gmX4_pay (ls := [.ref (b 0), .int c0, .int x, hole]) rfl rfl (Nat.le_of_ble_eq_true rfl) ?_
  intro X hX Q hQ hQ2
  have hwf2 := hwf
  obtain ⟨hnc, hncl, hnt, hntl, hno, hnol⟩ := hwf2
  refine gq_aload_n hX dX4_pay_0 rfl rfl rfl ?_
  refine gq_getf hX dX4_pay_1 rfl fX4_10 hW.c0 rfl ?_
  refine gq_iload_n hX dX4_pay_4 rfl rfl rfl ?_
  refine gq_iload_n hX dX4_pay_5 rfl rfl rfl ?_
  refine gq_callVe hX dX4_pay_6 rfl vX4_90 (Ct.rdS hb hW (i := 0) (by decide) rfl (ct_payFault (hb.bS (i := 0) (by decide)) hwf _ _)) rfl (hW.s0 (i := 0) (by decide)) rfl rfl (Nat.le_of_ble_eq_true rfl) ⟨(Nat.le_of_ble_eq_true rfl), (Nat.le_of_ble_eq_true rfl)⟩ (Nat.zero_add _) (Nat.zero_add _) ?_
  refine gq_istore_n hX dX4_pay_9 rfl rfl (Nat.le_of_ble_eq_true rfl) rfl ?_
  refine gq_iload_n hX dX4_pay_10 rfl rfl rfl ?_
  refine gq_iconst (v := nI 1) hX dX4_pay_11 rfl (by decide) ?_
  refine gq_icmp_neT (tgt := 25) hX dX4_pay_12 rfl (by rw [hF]; decide) ?_
  refine gq_iload_n hX dX4_pay_25 rfl rfl rfl ?_
  refine gq_iconst (v := nI 2) hX dX4_pay_26 rfl (by decide) ?_
  refine gq_icmp_neF (tgt := 40) hX dX4_pay_27 rfl rfl hF ?_
  exact gq_throw hX hQ2 rfl th61 rfl (List.mem_of_getElem? (i := 6) rfl) dX4_pay_30 dX4_pay_33 dX4_pay_34 dX4_pay_36 dX4_pay_39 (Nat.le_of_ble_eq_true rfl) (Nat.le_of_ble_eq_true rfl) (Nat.le_of_ble_eq_true rfl) (Nat.le_of_ble_eq_true rfl) ⟨rfl, rfl⟩

set_option maxRecDepth 100000 in
set_option maxHeartbeats 4000000 in
theorem cf_pay_3 {E : Ev} {b : Nat → Nat} {K : Kt} {M : Hp} (hb : Lay E 162 b) (hW : Wd E b K M) {nc nt no : Nat} (hwf : Wf (K.2.1 0) nc nt no) (c0 x : Int32) (hF : payF (K.2.1 0) nc c0 x = nI 3) : CtX E mX4_pay [.ref (b 0), .int c0, .int x] M NoR (PXe "java/lang/UnsupportedOperationException" M) 1 6 := by
  refine CtX.of gmX4_pay (ls := [.ref (b 0), .int c0, .int x, hole]) rfl rfl (Nat.le_of_ble_eq_true rfl) ?_
  intro X hX Q hQ hQ2
  have hwf2 := hwf
  obtain ⟨hnc, hncl, hnt, hntl, hno, hnol⟩ := hwf2
  refine gq_aload_n hX dX4_pay_0 rfl rfl rfl ?_
  refine gq_getf hX dX4_pay_1 rfl fX4_10 hW.c0 rfl ?_
  refine gq_iload_n hX dX4_pay_4 rfl rfl rfl ?_
  refine gq_iload_n hX dX4_pay_5 rfl rfl rfl ?_
  refine gq_callVe hX dX4_pay_6 rfl vX4_90 (Ct.rdS hb hW (i := 0) (by decide) rfl (ct_payFault (hb.bS (i := 0) (by decide)) hwf _ _)) rfl (hW.s0 (i := 0) (by decide)) rfl rfl (Nat.le_of_ble_eq_true rfl) ⟨(Nat.le_of_ble_eq_true rfl), (Nat.le_of_ble_eq_true rfl)⟩ (Nat.zero_add _) (Nat.zero_add _) ?_
  refine gq_istore_n hX dX4_pay_9 rfl rfl (Nat.le_of_ble_eq_true rfl) rfl ?_
  refine gq_iload_n hX dX4_pay_10 rfl rfl rfl ?_
  refine gq_iconst (v := nI 1) hX dX4_pay_11 rfl (by decide) ?_
  refine gq_icmp_neT (tgt := 25) hX dX4_pay_12 rfl (by rw [hF]; decide) ?_
  refine gq_iload_n hX dX4_pay_25 rfl rfl rfl ?_
  refine gq_iconst (v := nI 2) hX dX4_pay_26 rfl (by decide) ?_
  refine gq_icmp_neT (tgt := 40) hX dX4_pay_27 rfl (by rw [hF]; decide) ?_
  refine gq_iload_n hX dX4_pay_40 rfl rfl rfl ?_
  refine gq_iconst (v := nI 3) hX dX4_pay_41 rfl (by decide) ?_
  refine gq_icmp_neF (tgt := 55) hX dX4_pay_42 rfl rfl hF ?_
  exact gq_throw hX hQ2 rfl th101 rfl (List.mem_of_getElem? (i := 7) rfl) dX4_pay_45 dX4_pay_48 dX4_pay_49 dX4_pay_51 dX4_pay_54 (Nat.le_of_ble_eq_true rfl) (Nat.le_of_ble_eq_true rfl) (Nat.le_of_ble_eq_true rfl) (Nat.le_of_ble_eq_true rfl) ⟨rfl, rfl⟩

set_option maxRecDepth 100000 in
set_option maxHeartbeats 4000000 in
theorem cf_pay_ok {E : Ev} {b : Nat → Nat} {K : Kt} {M : Hp} (hb : Lay E 162 b) (hW : Wd E b K M) {nc nt no : Nat} (hwf : Wf (K.2.1 0) nc nt no) (hn : Nar (K.2.1 0)) {nx kp : Nat} (hr : RgC K nx kp) (c0 x : Int32) (hF : payF (K.2.1 0) nc c0 x = 0) {j : Nat} (hj : j < nc) (hcj : c0 = nI j) : Ct E mX4_pay [.ref (b 0), .int c0, .int x] M (WR E b (some (.int ((K.2.1 0).2 2 j - x))) (kSs (keepK K 0 nx kp nc nt no) 0 (payS (K.2.1 0) j x))) 0 0 := by
  refine Ct.of gmX4_pay (ls := [.ref (b 0), .int c0, .int x, hole]) rfl rfl (Nat.le_of_ble_eq_true rfl) ?_
  intro X hX Q hQ
  have hwf2 := hwf
  obtain ⟨hnc, hncl, hnt, hntl, hno, hnol⟩ := hwf2
  subst hcj
  refine gq_aload_n hX dX4_pay_0 rfl rfl rfl ?_
  refine gq_getf hX dX4_pay_1 rfl fX4_10 hW.c0 rfl ?_
  refine gq_iload_n hX dX4_pay_4 rfl rfl rfl ?_
  refine gq_iload_n hX dX4_pay_5 rfl rfl rfl ?_
  refine gq_callVe hX dX4_pay_6 rfl vX4_90 (Ct.rdS hb hW (i := 0) (by decide) rfl (ct_payFault (hb.bS (i := 0) (by decide)) hwf _ _)) rfl (hW.s0 (i := 0) (by decide)) rfl rfl (Nat.le_of_ble_eq_true rfl) ⟨(Nat.le_of_ble_eq_true rfl), (Nat.le_of_ble_eq_true rfl)⟩ (Nat.zero_add _) (Nat.zero_add _) ?_
  refine gq_istore_n hX dX4_pay_9 rfl rfl (Nat.le_of_ble_eq_true rfl) rfl ?_
  refine gq_iload_n hX dX4_pay_10 rfl rfl rfl ?_
  refine gq_iconst (v := nI 1) hX dX4_pay_11 rfl (by decide) ?_
  refine gq_icmp_neT (tgt := 25) hX dX4_pay_12 rfl (by rw [hF]; decide) ?_
  refine gq_iload_n hX dX4_pay_25 rfl rfl rfl ?_
  refine gq_iconst (v := nI 2) hX dX4_pay_26 rfl (by decide) ?_
  refine gq_icmp_neT (tgt := 40) hX dX4_pay_27 rfl (by rw [hF]; decide) ?_
  refine gq_iload_n hX dX4_pay_40 rfl rfl rfl ?_
  refine gq_iconst (v := nI 3) hX dX4_pay_41 rfl (by decide) ?_
  refine gq_icmp_neT (tgt := 55) hX dX4_pay_42 rfl (by rw [hF]; decide) ?_
  refine gq_aload_n hX dX4_pay_55 rfl rfl rfl ?_
  refine gq_getf hX dX4_pay_56 rfl fX4_29 hW.c0 rfl ?_
  refine gq_aload_n hX dX4_pay_59 rfl rfl rfl ?_
  refine gq_getf hX dX4_pay_60 rfl fX4_10 hW.c0 rfl ?_
  refine gq_callVw hX dX4_pay_63 rfl vX4_73 (ch_keep0 hb hW hwf hn hr) rfl hW.c1 rfl rfl (Nat.le_of_ble_eq_true rfl) ⟨(Nat.le_of_ble_eq_true rfl), (Nat.le_of_ble_eq_true rfl)⟩ (Nat.zero_add _) (Nat.zero_add _) ?_
  intro M2 hW2
  refine gq_aload_n hX dX4_pay_66 rfl rfl rfl ?_
  refine gq_getf hX dX4_pay_67 rfl fX4_10 hW2.c0 rfl ?_
  refine gq_iload_n hX dX4_pay_70 rfl rfl rfl ?_
  refine gq_iload_n hX dX4_pay_71 rfl rfl rfl ?_
  refine gq_callVw hX dX4_pay_72 rfl vX4_106 (Ct.stwS hb hW2 (i := 0) (by decide) (keepK_st (by decide)) (ct_takeCoins (hb.bS (i := 0) (by decide)) hwf hj _)) rfl (hW2.s0 (i := 0) (by decide)) rfl rfl (Nat.le_of_ble_eq_true rfl) ⟨(Nat.le_of_ble_eq_true rfl), (Nat.le_of_ble_eq_true rfl)⟩ (Nat.zero_add _) (Nat.zero_add _) ?_
  intro M3 hW3
  exact gq_iret hX hQ dX4_pay_75 rfl ⟨rfl, hW3⟩

set_option maxRecDepth 100000 in
set_option maxHeartbeats 4000000 in
theorem cf_launch_1 {E : Ev} {b : Nat → Nat} {K : Kt} {M : Hp} (hb : Lay E 162 b) (hW : Wd E b K M) {nc nt no : Nat} (hwf : Wf (K.2.1 0) nc nt no) (c0 : Int32) (hF : lauF (K.2.1 0) nc c0 = nI 1) : CtX E mX4_launch [.ref (b 0), .int c0] M NoR (PXe "java/lang/IndexOutOfBoundsException" M) 1 6 := by
  refine CtX.of gmX4_launch (ls := [.ref (b 0), .int c0, hole]) rfl rfl (Nat.le_of_ble_eq_true rfl) ?_
  intro X hX Q hQ hQ2
  have hwf2 := hwf
  obtain ⟨hnc, hncl, hnt, hntl, hno, hnol⟩ := hwf2
  refine gq_aload_n hX dX4_launch_0 rfl rfl rfl ?_
  refine gq_getf hX dX4_launch_1 rfl fX4_10 hW.c0 rfl ?_
  refine gq_iload_n hX dX4_launch_4 rfl rfl rfl ?_
  refine gq_callVe hX dX4_launch_5 rfl vX4_109 (Ct.rdS hb hW (i := 0) (by decide) rfl (ct_launchFault (hb.bS (i := 0) (by decide)) hwf _)) rfl (hW.s0 (i := 0) (by decide)) rfl rfl (Nat.le_of_ble_eq_true rfl) ⟨(Nat.le_of_ble_eq_true rfl), (Nat.le_of_ble_eq_true rfl)⟩ (Nat.zero_add _) (Nat.zero_add _) ?_
  refine gq_istore_n hX dX4_launch_8 rfl rfl (Nat.le_of_ble_eq_true rfl) rfl ?_
  refine gq_iload_n hX dX4_launch_9 rfl rfl rfl ?_
  refine gq_iconst (v := nI 1) hX dX4_launch_10 rfl (by decide) ?_
  refine gq_icmp_neF (tgt := 24) hX dX4_launch_11 rfl rfl hF ?_
  exact gq_throw hX hQ2 rfl th94 rfl (List.mem_of_getElem? (i := 0) rfl) dX4_launch_14 dX4_launch_17 dX4_launch_18 dX4_launch_20 dX4_launch_23 (Nat.le_of_ble_eq_true rfl) (Nat.le_of_ble_eq_true rfl) (Nat.le_of_ble_eq_true rfl) (Nat.le_of_ble_eq_true rfl) ⟨rfl, rfl⟩

set_option maxRecDepth 100000 in
set_option maxHeartbeats 4000000 in
theorem cf_launch_2 {E : Ev} {b : Nat → Nat} {K : Kt} {M : Hp} (hb : Lay E 162 b) (hW : Wd E b K M) {nc nt no : Nat} (hwf : Wf (K.2.1 0) nc nt no) (c0 : Int32) (hF : lauF (K.2.1 0) nc c0 = nI 2) : CtX E mX4_launch [.ref (b 0), .int c0] M NoR (PXe "java/lang/IllegalStateException" M) 1 6 := by
  refine CtX.of gmX4_launch (ls := [.ref (b 0), .int c0, hole]) rfl rfl (Nat.le_of_ble_eq_true rfl) ?_
  intro X hX Q hQ hQ2
  have hwf2 := hwf
  obtain ⟨hnc, hncl, hnt, hntl, hno, hnol⟩ := hwf2
  refine gq_aload_n hX dX4_launch_0 rfl rfl rfl ?_
  refine gq_getf hX dX4_launch_1 rfl fX4_10 hW.c0 rfl ?_
  refine gq_iload_n hX dX4_launch_4 rfl rfl rfl ?_
  refine gq_callVe hX dX4_launch_5 rfl vX4_109 (Ct.rdS hb hW (i := 0) (by decide) rfl (ct_launchFault (hb.bS (i := 0) (by decide)) hwf _)) rfl (hW.s0 (i := 0) (by decide)) rfl rfl (Nat.le_of_ble_eq_true rfl) ⟨(Nat.le_of_ble_eq_true rfl), (Nat.le_of_ble_eq_true rfl)⟩ (Nat.zero_add _) (Nat.zero_add _) ?_
  refine gq_istore_n hX dX4_launch_8 rfl rfl (Nat.le_of_ble_eq_true rfl) rfl ?_
  refine gq_iload_n hX dX4_launch_9 rfl rfl rfl ?_
  refine gq_iconst (v := nI 1) hX dX4_launch_10 rfl (by decide) ?_
  refine gq_icmp_neT (tgt := 24) hX dX4_launch_11 rfl (by rw [hF]; decide) ?_
  refine gq_iload_n hX dX4_launch_24 rfl rfl rfl ?_
  refine gq_iconst (v := nI 2) hX dX4_launch_25 rfl (by decide) ?_
  refine gq_icmp_neF (tgt := 39) hX dX4_launch_26 rfl rfl hF ?_
  exact gq_throw hX hQ2 rfl th68 rfl (List.mem_of_getElem? (i := 8) rfl) dX4_launch_29 dX4_launch_32 dX4_launch_33 dX4_launch_35 dX4_launch_38 (Nat.le_of_ble_eq_true rfl) (Nat.le_of_ble_eq_true rfl) (Nat.le_of_ble_eq_true rfl) (Nat.le_of_ble_eq_true rfl) ⟨rfl, rfl⟩

set_option maxRecDepth 100000 in
set_option maxHeartbeats 4000000 in
theorem cf_launch_ok {E : Ev} {b : Nat → Nat} {K : Kt} {M : Hp} (hb : Lay E 162 b) (hW : Wd E b K M) {nc nt no : Nat} (hwf : Wf (K.2.1 0) nc nt no) (hn : Nar (K.2.1 0)) {nx kp : Nat} (hr : RgC K nx kp) (c0 : Int32) (hF : lauF (K.2.1 0) nc c0 = 0) {j : Nat} (hj : j < nc) (hcj : c0 = nI j) : Ct E mX4_launch [.ref (b 0), .int c0] M (WR E b (some (.int (cntFly (flyS (K.2.1 0) j) nc))) (kSs (keepK K 0 nx kp nc nt no) 0 (flyS (K.2.1 0) j))) 0 0 := by
  refine Ct.of gmX4_launch (ls := [.ref (b 0), .int c0, hole]) rfl rfl (Nat.le_of_ble_eq_true rfl) ?_
  intro X hX Q hQ
  have hwf2 := hwf
  obtain ⟨hnc, hncl, hnt, hntl, hno, hnol⟩ := hwf2
  subst hcj
  refine gq_aload_n hX dX4_launch_0 rfl rfl rfl ?_
  refine gq_getf hX dX4_launch_1 rfl fX4_10 hW.c0 rfl ?_
  refine gq_iload_n hX dX4_launch_4 rfl rfl rfl ?_
  refine gq_callVe hX dX4_launch_5 rfl vX4_109 (Ct.rdS hb hW (i := 0) (by decide) rfl (ct_launchFault (hb.bS (i := 0) (by decide)) hwf _)) rfl (hW.s0 (i := 0) (by decide)) rfl rfl (Nat.le_of_ble_eq_true rfl) ⟨(Nat.le_of_ble_eq_true rfl), (Nat.le_of_ble_eq_true rfl)⟩ (Nat.zero_add _) (Nat.zero_add _) ?_
  refine gq_istore_n hX dX4_launch_8 rfl rfl (Nat.le_of_ble_eq_true rfl) rfl ?_
  refine gq_iload_n hX dX4_launch_9 rfl rfl rfl ?_
  refine gq_iconst (v := nI 1) hX dX4_launch_10 rfl (by decide) ?_
  refine gq_icmp_neT (tgt := 24) hX dX4_launch_11 rfl (by rw [hF]; decide) ?_
  refine gq_iload_n hX dX4_launch_24 rfl rfl rfl ?_
  refine gq_iconst (v := nI 2) hX dX4_launch_25 rfl (by decide) ?_
  refine gq_icmp_neT (tgt := 39) hX dX4_launch_26 rfl (by rw [hF]; decide) ?_
  refine gq_aload_n hX dX4_launch_39 rfl rfl rfl ?_
  refine gq_getf hX dX4_launch_40 rfl fX4_29 hW.c0 rfl ?_
  refine gq_aload_n hX dX4_launch_43 rfl rfl rfl ?_
  refine gq_getf hX dX4_launch_44 rfl fX4_10 hW.c0 rfl ?_
  refine gq_callVw hX dX4_launch_47 rfl vX4_73 (ch_keep0 hb hW hwf hn hr) rfl hW.c1 rfl rfl (Nat.le_of_ble_eq_true rfl) ⟨(Nat.le_of_ble_eq_true rfl), (Nat.le_of_ble_eq_true rfl)⟩ (Nat.zero_add _) (Nat.zero_add _) ?_
  intro M2 hW2
  refine gq_aload_n hX dX4_launch_50 rfl rfl rfl ?_
  refine gq_getf hX dX4_launch_51 rfl fX4_10 hW2.c0 rfl ?_
  refine gq_iload_n hX dX4_launch_54 rfl rfl rfl ?_
  refine gq_callVw hX dX4_launch_55 rfl vX4_114 (Ct.stwS hb hW2 (i := 0) (by decide) (keepK_st (by decide)) (ct_letFly (hb.bS (i := 0) (by decide)) hwf hj)) rfl (hW2.s0 (i := 0) (by decide)) rfl rfl (Nat.le_of_ble_eq_true rfl) ⟨(Nat.le_of_ble_eq_true rfl), (Nat.le_of_ble_eq_true rfl)⟩ (Nat.zero_add _) (Nat.zero_add _) ?_
  intro M3 hW3
  exact gq_iret hX hQ dX4_launch_58 rfl ⟨rfl, hW3⟩

set_option maxRecDepth 100000 in
set_option maxHeartbeats 4000000 in
theorem cf_second_1 {E : Ev} {b : Nat → Nat} {K : Kt} {M : Hp} (hb : Lay E 162 b) (hW : Wd E b K M) {nc nt no : Nat} (hwf : Wf (K.2.1 0) nc nt no) (c0 id : Int32) (hF : secF (K.2.1 0) nc no c0 id = nI 1) : CtX E mX4_second [.ref (b 0), .int c0, .int id] M NoR (PXe "java/lang/IndexOutOfBoundsException" M) 1 6 := by
  refine CtX.of gmX4_second (ls := [.ref (b 0), .int c0, .int id, hole]) rfl rfl (Nat.le_of_ble_eq_true rfl) ?_
  intro X hX Q hQ hQ2
  have hwf2 := hwf
  obtain ⟨hnc, hncl, hnt, hntl, hno, hnol⟩ := hwf2
  refine gq_aload_n hX dX4_second_0 rfl rfl rfl ?_
  refine gq_getf hX dX4_second_1 rfl fX4_10 hW.c0 rfl ?_
  refine gq_iload_n hX dX4_second_4 rfl rfl rfl ?_
  refine gq_iload_n hX dX4_second_5 rfl rfl rfl ?_
  refine gq_callVe hX dX4_second_6 rfl vX4_174 (Ct.rdS hb hW (i := 0) (by decide) rfl (ct_secondFault (hb.bS (i := 0) (by decide)) hwf _ _)) rfl (hW.s0 (i := 0) (by decide)) rfl rfl (Nat.le_of_ble_eq_true rfl) ⟨(Nat.le_of_ble_eq_true rfl), (Nat.le_of_ble_eq_true rfl)⟩ (Nat.zero_add _) (Nat.zero_add _) ?_
  refine gq_istore_n hX dX4_second_9 rfl rfl (Nat.le_of_ble_eq_true rfl) rfl ?_
  refine gq_iload_n hX dX4_second_10 rfl rfl rfl ?_
  refine gq_iconst (v := nI 1) hX dX4_second_11 rfl (by decide) ?_
  refine gq_icmp_neF (tgt := 25) hX dX4_second_12 rfl rfl hF ?_
  exact gq_throw hX hQ2 rfl th94 rfl (List.mem_of_getElem? (i := 0) rfl) dX4_second_15 dX4_second_18 dX4_second_19 dX4_second_21 dX4_second_24 (Nat.le_of_ble_eq_true rfl) (Nat.le_of_ble_eq_true rfl) (Nat.le_of_ble_eq_true rfl) (Nat.le_of_ble_eq_true rfl) ⟨rfl, rfl⟩

set_option maxRecDepth 100000 in
set_option maxHeartbeats 4000000 in
theorem cf_second_2 {E : Ev} {b : Nat → Nat} {K : Kt} {M : Hp} (hb : Lay E 162 b) (hW : Wd E b K M) {nc nt no : Nat} (hwf : Wf (K.2.1 0) nc nt no) (c0 id : Int32) (hF : secF (K.2.1 0) nc no c0 id = nI 2) : CtX E mX4_second [.ref (b 0), .int c0, .int id] M NoR (PXe "java/util/NoSuchElementException" M) 1 6 := by
  refine CtX.of gmX4_second (ls := [.ref (b 0), .int c0, .int id, hole]) rfl rfl (Nat.le_of_ble_eq_true rfl) ?_
  intro X hX Q hQ hQ2
  have hwf2 := hwf
  obtain ⟨hnc, hncl, hnt, hntl, hno, hnol⟩ := hwf2
  refine gq_aload_n hX dX4_second_0 rfl rfl rfl ?_
  refine gq_getf hX dX4_second_1 rfl fX4_10 hW.c0 rfl ?_
  refine gq_iload_n hX dX4_second_4 rfl rfl rfl ?_
  refine gq_iload_n hX dX4_second_5 rfl rfl rfl ?_
  refine gq_callVe hX dX4_second_6 rfl vX4_174 (Ct.rdS hb hW (i := 0) (by decide) rfl (ct_secondFault (hb.bS (i := 0) (by decide)) hwf _ _)) rfl (hW.s0 (i := 0) (by decide)) rfl rfl (Nat.le_of_ble_eq_true rfl) ⟨(Nat.le_of_ble_eq_true rfl), (Nat.le_of_ble_eq_true rfl)⟩ (Nat.zero_add _) (Nat.zero_add _) ?_
  refine gq_istore_n hX dX4_second_9 rfl rfl (Nat.le_of_ble_eq_true rfl) rfl ?_
  refine gq_iload_n hX dX4_second_10 rfl rfl rfl ?_
  refine gq_iconst (v := nI 1) hX dX4_second_11 rfl (by decide) ?_
  refine gq_icmp_neT (tgt := 25) hX dX4_second_12 rfl (by rw [hF]; decide) ?_
  refine gq_iload_n hX dX4_second_25 rfl rfl rfl ?_
  refine gq_iconst (v := nI 2) hX dX4_second_26 rfl (by decide) ?_
  refine gq_icmp_neF (tgt := 40) hX dX4_second_27 rfl rfl hF ?_
  exact gq_throw hX hQ2 rfl th153 rfl (List.mem_of_getElem? (i := 14) rfl) dX4_second_30 dX4_second_33 dX4_second_34 dX4_second_36 dX4_second_39 (Nat.le_of_ble_eq_true rfl) (Nat.le_of_ble_eq_true rfl) (Nat.le_of_ble_eq_true rfl) (Nat.le_of_ble_eq_true rfl) ⟨rfl, rfl⟩

set_option maxRecDepth 100000 in
set_option maxHeartbeats 4000000 in
theorem cf_second_3 {E : Ev} {b : Nat → Nat} {K : Kt} {M : Hp} (hb : Lay E 162 b) (hW : Wd E b K M) {nc nt no : Nat} (hwf : Wf (K.2.1 0) nc nt no) (c0 id : Int32) (hF : secF (K.2.1 0) nc no c0 id = nI 3) : CtX E mX4_second [.ref (b 0), .int c0, .int id] M NoR (PXe "java/lang/IllegalArgumentException" M) 1 6 := by
  refine CtX.of gmX4_second (ls := [.ref (b 0), .int c0, .int id, hole]) rfl rfl (Nat.le_of_ble_eq_true rfl) ?_
  intro X hX Q hQ hQ2
  have hwf2 := hwf
  obtain ⟨hnc, hncl, hnt, hntl, hno, hnol⟩ := hwf2
  refine gq_aload_n hX dX4_second_0 rfl rfl rfl ?_
  refine gq_getf hX dX4_second_1 rfl fX4_10 hW.c0 rfl ?_
  refine gq_iload_n hX dX4_second_4 rfl rfl rfl ?_
  refine gq_iload_n hX dX4_second_5 rfl rfl rfl ?_
  refine gq_callVe hX dX4_second_6 rfl vX4_174 (Ct.rdS hb hW (i := 0) (by decide) rfl (ct_secondFault (hb.bS (i := 0) (by decide)) hwf _ _)) rfl (hW.s0 (i := 0) (by decide)) rfl rfl (Nat.le_of_ble_eq_true rfl) ⟨(Nat.le_of_ble_eq_true rfl), (Nat.le_of_ble_eq_true rfl)⟩ (Nat.zero_add _) (Nat.zero_add _) ?_
  refine gq_istore_n hX dX4_second_9 rfl rfl (Nat.le_of_ble_eq_true rfl) rfl ?_
  refine gq_iload_n hX dX4_second_10 rfl rfl rfl ?_
  refine gq_iconst (v := nI 1) hX dX4_second_11 rfl (by decide) ?_
  refine gq_icmp_neT (tgt := 25) hX dX4_second_12 rfl (by rw [hF]; decide) ?_
  refine gq_iload_n hX dX4_second_25 rfl rfl rfl ?_
  refine gq_iconst (v := nI 2) hX dX4_second_26 rfl (by decide) ?_
  refine gq_icmp_neT (tgt := 40) hX dX4_second_27 rfl (by rw [hF]; decide) ?_
  refine gq_iload_n hX dX4_second_40 rfl rfl rfl ?_
  refine gq_iconst (v := nI 3) hX dX4_second_41 rfl (by decide) ?_
  refine gq_icmp_neF (tgt := 55) hX dX4_second_42 rfl rfl hF ?_
  exact gq_throw hX hQ2 rfl th61 rfl (List.mem_of_getElem? (i := 15) rfl) dX4_second_45 dX4_second_48 dX4_second_49 dX4_second_51 dX4_second_54 (Nat.le_of_ble_eq_true rfl) (Nat.le_of_ble_eq_true rfl) (Nat.le_of_ble_eq_true rfl) (Nat.le_of_ble_eq_true rfl) ⟨rfl, rfl⟩

set_option maxRecDepth 100000 in
set_option maxHeartbeats 4000000 in
theorem cf_second_4 {E : Ev} {b : Nat → Nat} {K : Kt} {M : Hp} (hb : Lay E 162 b) (hW : Wd E b K M) {nc nt no : Nat} (hwf : Wf (K.2.1 0) nc nt no) (c0 id : Int32) (hF : secF (K.2.1 0) nc no c0 id = nI 4) : CtX E mX4_second [.ref (b 0), .int c0, .int id] M NoR (PXe "java/lang/IllegalStateException" M) 1 6 := by
  refine CtX.of gmX4_second (ls := [.ref (b 0), .int c0, .int id, hole]) rfl rfl (Nat.le_of_ble_eq_true rfl) ?_
  intro X hX Q hQ hQ2
  have hwf2 := hwf
  obtain ⟨hnc, hncl, hnt, hntl, hno, hnol⟩ := hwf2
  refine gq_aload_n hX dX4_second_0 rfl rfl rfl ?_
  refine gq_getf hX dX4_second_1 rfl fX4_10 hW.c0 rfl ?_
  refine gq_iload_n hX dX4_second_4 rfl rfl rfl ?_
  refine gq_iload_n hX dX4_second_5 rfl rfl rfl ?_
  refine gq_callVe hX dX4_second_6 rfl vX4_174 (Ct.rdS hb hW (i := 0) (by decide) rfl (ct_secondFault (hb.bS (i := 0) (by decide)) hwf _ _)) rfl (hW.s0 (i := 0) (by decide)) rfl rfl (Nat.le_of_ble_eq_true rfl) ⟨(Nat.le_of_ble_eq_true rfl), (Nat.le_of_ble_eq_true rfl)⟩ (Nat.zero_add _) (Nat.zero_add _) ?_
  refine gq_istore_n hX dX4_second_9 rfl rfl (Nat.le_of_ble_eq_true rfl) rfl ?_
  refine gq_iload_n hX dX4_second_10 rfl rfl rfl ?_
  refine gq_iconst (v := nI 1) hX dX4_second_11 rfl (by decide) ?_
  refine gq_icmp_neT (tgt := 25) hX dX4_second_12 rfl (by rw [hF]; decide) ?_
  refine gq_iload_n hX dX4_second_25 rfl rfl rfl ?_
  refine gq_iconst (v := nI 2) hX dX4_second_26 rfl (by decide) ?_
  refine gq_icmp_neT (tgt := 40) hX dX4_second_27 rfl (by rw [hF]; decide) ?_
  refine gq_iload_n hX dX4_second_40 rfl rfl rfl ?_
  refine gq_iconst (v := nI 3) hX dX4_second_41 rfl (by decide) ?_
  refine gq_icmp_neT (tgt := 55) hX dX4_second_42 rfl (by rw [hF]; decide) ?_
  refine gq_iload_n hX dX4_second_55 rfl rfl rfl ?_
  refine gq_iconst (v := nI 4) hX dX4_second_56 rfl (by decide) ?_
  refine gq_icmp_neF (tgt := 70) hX dX4_second_57 rfl rfl hF ?_
  exact gq_throw hX hQ2 rfl th68 rfl (List.mem_of_getElem? (i := 16) rfl) dX4_second_60 dX4_second_63 dX4_second_64 dX4_second_66 dX4_second_69 (Nat.le_of_ble_eq_true rfl) (Nat.le_of_ble_eq_true rfl) (Nat.le_of_ble_eq_true rfl) (Nat.le_of_ble_eq_true rfl) ⟨rfl, rfl⟩

set_option maxRecDepth 100000 in
set_option maxHeartbeats 4000000 in
theorem cf_second_ok {E : Ev} {b : Nat → Nat} {K : Kt} {M : Hp} (hb : Lay E 162 b) (hW : Wd E b K M) {nc nt no : Nat} (hwf : Wf (K.2.1 0) nc nt no) (hn : Nar (K.2.1 0)) {nx kp : Nat} (hr : RgC K nx kp) (c0 id : Int32) (hF : secF (K.2.1 0) nc no c0 id = 0) {k : Nat} (ho : slotO (K.2.1 0) no id = some k) : Ct E mX4_second [.ref (b 0), .int c0, .int id] M (WR E b (some (.int (cntSec (sedS (K.2.1 0) k c0) no))) (kSs (keepK K 0 nx kp nc nt no) 0 (sedS (K.2.1 0) k c0))) 0 0 := by
  refine Ct.of gmX4_second (ls := [.ref (b 0), .int c0, .int id, hole]) rfl rfl (Nat.le_of_ble_eq_true rfl) ?_
  intro X hX Q hQ
  have hwf2 := hwf
  obtain ⟨hnc, hncl, hnt, hntl, hno, hnol⟩ := hwf2
  refine gq_aload_n hX dX4_second_0 rfl rfl rfl ?_
  refine gq_getf hX dX4_second_1 rfl fX4_10 hW.c0 rfl ?_
  refine gq_iload_n hX dX4_second_4 rfl rfl rfl ?_
  refine gq_iload_n hX dX4_second_5 rfl rfl rfl ?_
  refine gq_callVe hX dX4_second_6 rfl vX4_174 (Ct.rdS hb hW (i := 0) (by decide) rfl (ct_secondFault (hb.bS (i := 0) (by decide)) hwf _ _)) rfl (hW.s0 (i := 0) (by decide)) rfl rfl (Nat.le_of_ble_eq_true rfl) ⟨(Nat.le_of_ble_eq_true rfl), (Nat.le_of_ble_eq_true rfl)⟩ (Nat.zero_add _) (Nat.zero_add _) ?_
  refine gq_istore_n hX dX4_second_9 rfl rfl (Nat.le_of_ble_eq_true rfl) rfl ?_
  refine gq_iload_n hX dX4_second_10 rfl rfl rfl ?_
  refine gq_iconst (v := nI 1) hX dX4_second_11 rfl (by decide) ?_
  refine gq_icmp_neT (tgt := 25) hX dX4_second_12 rfl (by rw [hF]; decide) ?_
  refine gq_iload_n hX dX4_second_25 rfl rfl rfl ?_
  refine gq_iconst (v := nI 2) hX dX4_second_26 rfl (by decide) ?_
  refine gq_icmp_neT (tgt := 40) hX dX4_second_27 rfl (by rw [hF]; decide) ?_
  refine gq_iload_n hX dX4_second_40 rfl rfl rfl ?_
  refine gq_iconst (v := nI 3) hX dX4_second_41 rfl (by decide) ?_
  refine gq_icmp_neT (tgt := 55) hX dX4_second_42 rfl (by rw [hF]; decide) ?_
  refine gq_iload_n hX dX4_second_55 rfl rfl rfl ?_
  refine gq_iconst (v := nI 4) hX dX4_second_56 rfl (by decide) ?_
  refine gq_icmp_neT (tgt := 70) hX dX4_second_57 rfl (by rw [hF]; decide) ?_
  refine gq_aload_n hX dX4_second_70 rfl rfl rfl ?_
  refine gq_getf hX dX4_second_71 rfl fX4_29 hW.c0 rfl ?_
  refine gq_aload_n hX dX4_second_74 rfl rfl rfl ?_
  refine gq_getf hX dX4_second_75 rfl fX4_10 hW.c0 rfl ?_
  refine gq_callVw hX dX4_second_78 rfl vX4_73 (ch_keep0 hb hW hwf hn hr) rfl hW.c1 rfl rfl (Nat.le_of_ble_eq_true rfl) ⟨(Nat.le_of_ble_eq_true rfl), (Nat.le_of_ble_eq_true rfl)⟩ (Nat.zero_add _) (Nat.zero_add _) ?_
  intro M2 hW2
  refine gq_aload_n hX dX4_second_81 rfl rfl rfl ?_
  refine gq_getf hX dX4_second_82 rfl fX4_10 hW2.c0 rfl ?_
  refine gq_iload_n hX dX4_second_85 rfl rfl rfl ?_
  refine gq_iload_n hX dX4_second_86 rfl rfl rfl ?_
  refine gq_callVw hX dX4_second_87 rfl vX4_183 (Ct.stwS hb hW2 (i := 0) (by decide) (keepK_st (by decide)) (ct_setSeconder (hb.bS (i := 0) (by decide)) hwf ho _)) rfl (hW2.s0 (i := 0) (by decide)) rfl rfl (Nat.le_of_ble_eq_true rfl) ⟨(Nat.le_of_ble_eq_true rfl), (Nat.le_of_ble_eq_true rfl)⟩ (Nat.zero_add _) (Nat.zero_add _) ?_
  intro M3 hW3
  exact gq_iret hX hQ dX4_second_90 rfl ⟨rfl, hW3⟩

set_option maxRecDepth 100000 in
set_option maxHeartbeats 4000000 in
theorem cf_untable_1 {E : Ev} {b : Nat → Nat} {K : Kt} {M : Hp} (hb : Lay E 162 b) (hW : Wd E b K M) {nc nt no : Nat} (hwf : Wf (K.2.1 0) nc nt no) (id : Int32) (hF : untF (K.2.1 0) no id = nI 1) : CtX E mX4_untable [.ref (b 0), .int id] M NoR (PXe "java/util/NoSuchElementException" M) 1 6 := by
  refine CtX.of gmX4_untable (ls := [.ref (b 0), .int id, hole]) rfl rfl (Nat.le_of_ble_eq_true rfl) ?_
  intro X hX Q hQ hQ2
  have hwf2 := hwf
  obtain ⟨hnc, hncl, hnt, hntl, hno, hnol⟩ := hwf2
  refine gq_aload_n hX dX4_untable_0 rfl rfl rfl ?_
  refine gq_getf hX dX4_untable_1 rfl fX4_10 hW.c0 rfl ?_
  refine gq_iload_n hX dX4_untable_4 rfl rfl rfl ?_
  refine gq_callVe hX dX4_untable_5 rfl vX4_186 (Ct.rdS hb hW (i := 0) (by decide) rfl (ct_untableFault (hb.bS (i := 0) (by decide)) hwf _)) rfl (hW.s0 (i := 0) (by decide)) rfl rfl (Nat.le_of_ble_eq_true rfl) ⟨(Nat.le_of_ble_eq_true rfl), (Nat.le_of_ble_eq_true rfl)⟩ (Nat.zero_add _) (Nat.zero_add _) ?_
  refine gq_istore_n hX dX4_untable_8 rfl rfl (Nat.le_of_ble_eq_true rfl) rfl ?_
  refine gq_iload_n hX dX4_untable_9 rfl rfl rfl ?_
  refine gq_iconst (v := nI 1) hX dX4_untable_10 rfl (by decide) ?_
  refine gq_icmp_neF (tgt := 24) hX dX4_untable_11 rfl rfl hF ?_
  exact gq_throw hX hQ2 rfl th153 rfl (List.mem_of_getElem? (i := 14) rfl) dX4_untable_14 dX4_untable_17 dX4_untable_18 dX4_untable_20 dX4_untable_23 (Nat.le_of_ble_eq_true rfl) (Nat.le_of_ble_eq_true rfl) (Nat.le_of_ble_eq_true rfl) (Nat.le_of_ble_eq_true rfl) ⟨rfl, rfl⟩

set_option maxRecDepth 100000 in
set_option maxHeartbeats 4000000 in
theorem cf_untable_2 {E : Ev} {b : Nat → Nat} {K : Kt} {M : Hp} (hb : Lay E 162 b) (hW : Wd E b K M) {nc nt no : Nat} (hwf : Wf (K.2.1 0) nc nt no) (id : Int32) (hF : untF (K.2.1 0) no id = nI 2) : CtX E mX4_untable [.ref (b 0), .int id] M NoR (PXe "java/lang/IllegalStateException" M) 1 6 := by
  refine CtX.of gmX4_untable (ls := [.ref (b 0), .int id, hole]) rfl rfl (Nat.le_of_ble_eq_true rfl) ?_
  intro X hX Q hQ hQ2
  have hwf2 := hwf
  obtain ⟨hnc, hncl, hnt, hntl, hno, hnol⟩ := hwf2
  refine gq_aload_n hX dX4_untable_0 rfl rfl rfl ?_
  refine gq_getf hX dX4_untable_1 rfl fX4_10 hW.c0 rfl ?_
  refine gq_iload_n hX dX4_untable_4 rfl rfl rfl ?_
  refine gq_callVe hX dX4_untable_5 rfl vX4_186 (Ct.rdS hb hW (i := 0) (by decide) rfl (ct_untableFault (hb.bS (i := 0) (by decide)) hwf _)) rfl (hW.s0 (i := 0) (by decide)) rfl rfl (Nat.le_of_ble_eq_true rfl) ⟨(Nat.le_of_ble_eq_true rfl), (Nat.le_of_ble_eq_true rfl)⟩ (Nat.zero_add _) (Nat.zero_add _) ?_
  refine gq_istore_n hX dX4_untable_8 rfl rfl (Nat.le_of_ble_eq_true rfl) rfl ?_
  refine gq_iload_n hX dX4_untable_9 rfl rfl rfl ?_
  refine gq_iconst (v := nI 1) hX dX4_untable_10 rfl (by decide) ?_
  refine gq_icmp_neT (tgt := 24) hX dX4_untable_11 rfl (by rw [hF]; decide) ?_
  refine gq_iload_n hX dX4_untable_24 rfl rfl rfl ?_
  refine gq_iconst (v := nI 2) hX dX4_untable_25 rfl (by decide) ?_
  refine gq_icmp_neF (tgt := 39) hX dX4_untable_26 rfl rfl hF ?_
  exact gq_throw hX hQ2 rfl th68 rfl (List.mem_of_getElem? (i := 17) rfl) dX4_untable_29 dX4_untable_32 dX4_untable_33 dX4_untable_35 dX4_untable_38 (Nat.le_of_ble_eq_true rfl) (Nat.le_of_ble_eq_true rfl) (Nat.le_of_ble_eq_true rfl) (Nat.le_of_ble_eq_true rfl) ⟨rfl, rfl⟩

set_option maxRecDepth 100000 in
set_option maxHeartbeats 4000000 in
theorem cf_untable_ok {E : Ev} {b : Nat → Nat} {K : Kt} {M : Hp} (hb : Lay E 162 b) (hW : Wd E b K M) {nc nt no : Nat} (hwf : Wf (K.2.1 0) nc nt no) (hn : Nar (K.2.1 0)) {nx kp : Nat} (hr : RgC K nx kp) (id : Int32) (hF : untF (K.2.1 0) no id = 0) {k a : Nat} (ho : slotO (K.2.1 0) no id = some k) (hmv : (K.2.1 0).2 9 k = nI a) (ha : a < nc) : Ct E mX4_untable [.ref (b 0), .int id] M (WR E b (some (.int ((K.2.1 0).2 2 a + nI 1))) (kSs (keepK K 0 nx kp nc nt no) 0 (untS (K.2.1 0) k a))) 0 0 := by
  refine Ct.of gmX4_untable (ls := [.ref (b 0), .int id, hole]) rfl rfl (Nat.le_of_ble_eq_true rfl) ?_
  intro X hX Q hQ
  have hwf2 := hwf
  obtain ⟨hnc, hncl, hnt, hntl, hno, hnol⟩ := hwf2
  refine gq_aload_n hX dX4_untable_0 rfl rfl rfl ?_
  refine gq_getf hX dX4_untable_1 rfl fX4_10 hW.c0 rfl ?_
  refine gq_iload_n hX dX4_untable_4 rfl rfl rfl ?_
  refine gq_callVe hX dX4_untable_5 rfl vX4_186 (Ct.rdS hb hW (i := 0) (by decide) rfl (ct_untableFault (hb.bS (i := 0) (by decide)) hwf _)) rfl (hW.s0 (i := 0) (by decide)) rfl rfl (Nat.le_of_ble_eq_true rfl) ⟨(Nat.le_of_ble_eq_true rfl), (Nat.le_of_ble_eq_true rfl)⟩ (Nat.zero_add _) (Nat.zero_add _) ?_
  refine gq_istore_n hX dX4_untable_8 rfl rfl (Nat.le_of_ble_eq_true rfl) rfl ?_
  refine gq_iload_n hX dX4_untable_9 rfl rfl rfl ?_
  refine gq_iconst (v := nI 1) hX dX4_untable_10 rfl (by decide) ?_
  refine gq_icmp_neT (tgt := 24) hX dX4_untable_11 rfl (by rw [hF]; decide) ?_
  refine gq_iload_n hX dX4_untable_24 rfl rfl rfl ?_
  refine gq_iconst (v := nI 2) hX dX4_untable_25 rfl (by decide) ?_
  refine gq_icmp_neT (tgt := 39) hX dX4_untable_26 rfl (by rw [hF]; decide) ?_
  refine gq_aload_n hX dX4_untable_39 rfl rfl rfl ?_
  refine gq_getf hX dX4_untable_40 rfl fX4_29 hW.c0 rfl ?_
  refine gq_aload_n hX dX4_untable_43 rfl rfl rfl ?_
  refine gq_getf hX dX4_untable_44 rfl fX4_10 hW.c0 rfl ?_
  refine gq_callVw hX dX4_untable_47 rfl vX4_73 (ch_keep0 hb hW hwf hn hr) rfl hW.c1 rfl rfl (Nat.le_of_ble_eq_true rfl) ⟨(Nat.le_of_ble_eq_true rfl), (Nat.le_of_ble_eq_true rfl)⟩ (Nat.zero_add _) (Nat.zero_add _) ?_
  intro M2 hW2
  refine gq_aload_n hX dX4_untable_50 rfl rfl rfl ?_
  refine gq_getf hX dX4_untable_51 rfl fX4_10 hW2.c0 rfl ?_
  refine gq_iload_n hX dX4_untable_54 rfl rfl rfl ?_
  refine gq_callVw hX dX4_untable_55 rfl vX4_191 (Ct.stwS hb hW2 (i := 0) (by decide) (keepK_st (by decide)) (ct_takeFromTable (hb.bS (i := 0) (by decide)) hwf ho hmv ha)) rfl (hW2.s0 (i := 0) (by decide)) rfl rfl (Nat.le_of_ble_eq_true rfl) ⟨(Nat.le_of_ble_eq_true rfl), (Nat.le_of_ble_eq_true rfl)⟩ (Nat.zero_add _) (Nat.zero_add _) ?_
  intro M3 hW3
  exact gq_iret hX hQ dX4_untable_58 rfl ⟨rfl, hW3⟩

set_option maxRecDepth 100000 in
set_option maxHeartbeats 4000000 in
theorem cf_withdraw_1 {E : Ev} {b : Nat → Nat} {K : Kt} {M : Hp} (hb : Lay E 162 b) (hW : Wd E b K M) {nc nt no : Nat} (hwf : Wf (K.2.1 0) nc nt no) (id : Int32) (hF : witF (K.2.1 0) no id = nI 1) : CtX E mX4_withdraw [.ref (b 0), .int id] M NoR (PXe "java/util/NoSuchElementException" M) 1 6 := by
  refine CtX.of gmX4_withdraw (ls := [.ref (b 0), .int id]) rfl rfl (Nat.le_of_ble_eq_true rfl) ?_
  intro X hX Q hQ hQ2
  have hwf2 := hwf
  obtain ⟨hnc, hncl, hnt, hntl, hno, hnol⟩ := hwf2
  refine gq_aload_n hX dX4_withdraw_0 rfl rfl rfl ?_
  refine gq_getf hX dX4_withdraw_1 rfl fX4_10 hW.c0 rfl ?_
  refine gq_iload_n hX dX4_withdraw_4 rfl rfl rfl ?_
  refine gq_callVe hX dX4_withdraw_5 rfl vX4_194 (Ct.rdS hb hW (i := 0) (by decide) rfl (ct_withdrawFault (hb.bS (i := 0) (by decide)) hwf _)) rfl (hW.s0 (i := 0) (by decide)) rfl rfl (Nat.le_of_ble_eq_true rfl) ⟨(Nat.le_of_ble_eq_true rfl), (Nat.le_of_ble_eq_true rfl)⟩ (Nat.zero_add _) (Nat.zero_add _) ?_
  refine gq_iconst (v := nI 1) hX dX4_withdraw_8 rfl (by decide) ?_
  refine gq_icmp_neF (tgt := 22) hX dX4_withdraw_9 rfl rfl hF ?_
  exact gq_throw hX hQ2 rfl th153 rfl (List.mem_of_getElem? (i := 14) rfl) dX4_withdraw_12 dX4_withdraw_15 dX4_withdraw_16 dX4_withdraw_18 dX4_withdraw_21 (Nat.le_of_ble_eq_true rfl) (Nat.le_of_ble_eq_true rfl) (Nat.le_of_ble_eq_true rfl) (Nat.le_of_ble_eq_true rfl) ⟨rfl, rfl⟩

set_option maxRecDepth 100000 in
set_option maxHeartbeats 4000000 in
theorem cf_withdraw_ok {E : Ev} {b : Nat → Nat} {K : Kt} {M : Hp} (hb : Lay E 162 b) (hW : Wd E b K M) {nc nt no : Nat} (hwf : Wf (K.2.1 0) nc nt no) (hn : Nar (K.2.1 0)) {nx kp : Nat} (hr : RgC K nx kp) (id : Int32) (hF : witF (K.2.1 0) no id = 0) {k : Nat} (ho : slotO (K.2.1 0) no id = some k) : Ct E mX4_withdraw [.ref (b 0), .int id] M (WR E b (some (.int ((cloS (K.2.1 0) no k).1 7))) (kSs (keepK K 0 nx kp nc nt no) 0 (cloS (K.2.1 0) no k))) 0 0 := by
  refine Ct.of gmX4_withdraw (ls := [.ref (b 0), .int id]) rfl rfl (Nat.le_of_ble_eq_true rfl) ?_
  intro X hX Q hQ
  have hwf2 := hwf
  obtain ⟨hnc, hncl, hnt, hntl, hno, hnol⟩ := hwf2
  refine gq_aload_n hX dX4_withdraw_0 rfl rfl rfl ?_
  refine gq_getf hX dX4_withdraw_1 rfl fX4_10 hW.c0 rfl ?_
  refine gq_iload_n hX dX4_withdraw_4 rfl rfl rfl ?_
  refine gq_callVe hX dX4_withdraw_5 rfl vX4_194 (Ct.rdS hb hW (i := 0) (by decide) rfl (ct_withdrawFault (hb.bS (i := 0) (by decide)) hwf _)) rfl (hW.s0 (i := 0) (by decide)) rfl rfl (Nat.le_of_ble_eq_true rfl) ⟨(Nat.le_of_ble_eq_true rfl), (Nat.le_of_ble_eq_true rfl)⟩ (Nat.zero_add _) (Nat.zero_add _) ?_
  refine gq_iconst (v := nI 1) hX dX4_withdraw_8 rfl (by decide) ?_
  refine gq_icmp_neT (tgt := 22) hX dX4_withdraw_9 rfl (by rw [hF]; decide) ?_
  refine gq_aload_n hX dX4_withdraw_22 rfl rfl rfl ?_
  refine gq_getf hX dX4_withdraw_23 rfl fX4_29 hW.c0 rfl ?_
  refine gq_aload_n hX dX4_withdraw_26 rfl rfl rfl ?_
  refine gq_getf hX dX4_withdraw_27 rfl fX4_10 hW.c0 rfl ?_
  refine gq_callVw hX dX4_withdraw_30 rfl vX4_73 (ch_keep0 hb hW hwf hn hr) rfl hW.c1 rfl rfl (Nat.le_of_ble_eq_true rfl) ⟨(Nat.le_of_ble_eq_true rfl), (Nat.le_of_ble_eq_true rfl)⟩ (Nat.zero_add _) (Nat.zero_add _) ?_
  intro M2 hW2
  refine gq_aload_n hX dX4_withdraw_33 rfl rfl rfl ?_
  refine gq_getf hX dX4_withdraw_34 rfl fX4_10 hW2.c0 rfl ?_
  refine gq_iload_n hX dX4_withdraw_37 rfl rfl rfl ?_
  refine gq_callVw hX dX4_withdraw_38 rfl vX4_197 (Ct.stwS hb hW2 (i := 0) (by decide) (keepK_st (by decide)) (ct_dropMotion (hb.bS (i := 0) (by decide)) hwf ho hn)) rfl (hW2.s0 (i := 0) (by decide)) rfl rfl (Nat.le_of_ble_eq_true rfl) ⟨(Nat.le_of_ble_eq_true rfl), (Nat.le_of_ble_eq_true rfl)⟩ (Nat.zero_add _) (Nat.zero_add _) ?_
  intro M3 hW3
  exact gq_iret hX hQ dX4_withdraw_41 rfl ⟨rfl, hW3⟩

set_option maxRecDepth 100000 in
set_option maxHeartbeats 4000000 in
theorem cf_vote_1 {E : Ev} {b : Nat → Nat} {K : Kt} {M : Hp} (hb : Lay E 162 b) (hW : Wd E b K M) {nc nt no : Nat} (hwf : Wf (K.2.1 0) nc nt no) (id : Int32) (hF : votF (K.2.1 0) no id = nI 1) : CtX E mX4_vote [.ref (b 0), .int id] M NoR (PXe "java/util/NoSuchElementException" M) 1 6 := by
  refine CtX.of gmX4_vote (ls := [.ref (b 0), .int id, hole]) rfl rfl (Nat.le_of_ble_eq_true rfl) ?_
  intro X hX Q hQ hQ2
  have hwf2 := hwf
  obtain ⟨hnc, hncl, hnt, hntl, hno, hnol⟩ := hwf2
  refine gq_aload_n hX dX4_vote_0 rfl rfl rfl ?_
  refine gq_getf hX dX4_vote_1 rfl fX4_10 hW.c0 rfl ?_
  refine gq_iload_n hX dX4_vote_4 rfl rfl rfl ?_
  refine gq_callVe hX dX4_vote_5 rfl vX4_200 (Ct.rdS hb hW (i := 0) (by decide) rfl (ct_voteFault (hb.bS (i := 0) (by decide)) hwf _)) rfl (hW.s0 (i := 0) (by decide)) rfl rfl (Nat.le_of_ble_eq_true rfl) ⟨(Nat.le_of_ble_eq_true rfl), (Nat.le_of_ble_eq_true rfl)⟩ (Nat.zero_add _) (Nat.zero_add _) ?_
  refine gq_istore_n hX dX4_vote_8 rfl rfl (Nat.le_of_ble_eq_true rfl) rfl ?_
  refine gq_iload_n hX dX4_vote_9 rfl rfl rfl ?_
  refine gq_iconst (v := nI 1) hX dX4_vote_10 rfl (by decide) ?_
  refine gq_icmp_neF (tgt := 24) hX dX4_vote_11 rfl rfl hF ?_
  exact gq_throw hX hQ2 rfl th153 rfl (List.mem_of_getElem? (i := 14) rfl) dX4_vote_14 dX4_vote_17 dX4_vote_18 dX4_vote_20 dX4_vote_23 (Nat.le_of_ble_eq_true rfl) (Nat.le_of_ble_eq_true rfl) (Nat.le_of_ble_eq_true rfl) (Nat.le_of_ble_eq_true rfl) ⟨rfl, rfl⟩

set_option maxRecDepth 100000 in
set_option maxHeartbeats 4000000 in
theorem cf_vote_2 {E : Ev} {b : Nat → Nat} {K : Kt} {M : Hp} (hb : Lay E 162 b) (hW : Wd E b K M) {nc nt no : Nat} (hwf : Wf (K.2.1 0) nc nt no) (id : Int32) (hF : votF (K.2.1 0) no id = nI 2) : CtX E mX4_vote [.ref (b 0), .int id] M NoR (PXe "java/lang/IllegalStateException" M) 1 6 := by
  refine CtX.of gmX4_vote (ls := [.ref (b 0), .int id, hole]) rfl rfl (Nat.le_of_ble_eq_true rfl) ?_
  intro X hX Q hQ hQ2
  have hwf2 := hwf
  obtain ⟨hnc, hncl, hnt, hntl, hno, hnol⟩ := hwf2
  refine gq_aload_n hX dX4_vote_0 rfl rfl rfl ?_
  refine gq_getf hX dX4_vote_1 rfl fX4_10 hW.c0 rfl ?_
  refine gq_iload_n hX dX4_vote_4 rfl rfl rfl ?_
  refine gq_callVe hX dX4_vote_5 rfl vX4_200 (Ct.rdS hb hW (i := 0) (by decide) rfl (ct_voteFault (hb.bS (i := 0) (by decide)) hwf _)) rfl (hW.s0 (i := 0) (by decide)) rfl rfl (Nat.le_of_ble_eq_true rfl) ⟨(Nat.le_of_ble_eq_true rfl), (Nat.le_of_ble_eq_true rfl)⟩ (Nat.zero_add _) (Nat.zero_add _) ?_
  refine gq_istore_n hX dX4_vote_8 rfl rfl (Nat.le_of_ble_eq_true rfl) rfl ?_
  refine gq_iload_n hX dX4_vote_9 rfl rfl rfl ?_
  refine gq_iconst (v := nI 1) hX dX4_vote_10 rfl (by decide) ?_
  refine gq_icmp_neT (tgt := 24) hX dX4_vote_11 rfl (by rw [hF]; decide) ?_
  refine gq_iload_n hX dX4_vote_24 rfl rfl rfl ?_
  refine gq_iconst (v := nI 2) hX dX4_vote_25 rfl (by decide) ?_
  refine gq_icmp_neF (tgt := 39) hX dX4_vote_26 rfl rfl hF ?_
  exact gq_throw hX hQ2 rfl th68 rfl (List.mem_of_getElem? (i := 18) rfl) dX4_vote_29 dX4_vote_32 dX4_vote_33 dX4_vote_35 dX4_vote_38 (Nat.le_of_ble_eq_true rfl) (Nat.le_of_ble_eq_true rfl) (Nat.le_of_ble_eq_true rfl) (Nat.le_of_ble_eq_true rfl) ⟨rfl, rfl⟩

set_option maxRecDepth 100000 in
set_option maxHeartbeats 4000000 in
theorem cf_vote_ok {E : Ev} {b : Nat → Nat} {K : Kt} {M : Hp} (hb : Lay E 162 b) (hW : Wd E b K M) {nc nt no : Nat} (hwf : Wf (K.2.1 0) nc nt no) (hn : Nar (K.2.1 0)) {nx kp : Nat} (hr : RgC K nx kp) (id : Int32) (hF : votF (K.2.1 0) no id = 0) {k a o : Nat} (ho : slotO (K.2.1 0) no id = some k) (hmv : (K.2.1 0).2 9 k = nI a) (ha : a < nc) (ho2 : ObjOk (K.2.1 0) nc nt k o) : Ct E mX4_vote [.ref (b 0), .int id] M (WR E b (some (.int (carI (K.2.1 0) nc k a o))) (kSs (keepK K 0 nx kp nc nt no) 0 (votS (K.2.1 0) nc nt no k a o))) 0 0 := by
  refine Ct.of gmX4_vote (ls := [.ref (b 0), .int id, hole]) rfl rfl (Nat.le_of_ble_eq_true rfl) ?_
  intro X hX Q hQ
  have hwf2 := hwf
  obtain ⟨hnc, hncl, hnt, hntl, hno, hnol⟩ := hwf2
  refine gq_aload_n hX dX4_vote_0 rfl rfl rfl ?_
  refine gq_getf hX dX4_vote_1 rfl fX4_10 hW.c0 rfl ?_
  refine gq_iload_n hX dX4_vote_4 rfl rfl rfl ?_
  refine gq_callVe hX dX4_vote_5 rfl vX4_200 (Ct.rdS hb hW (i := 0) (by decide) rfl (ct_voteFault (hb.bS (i := 0) (by decide)) hwf _)) rfl (hW.s0 (i := 0) (by decide)) rfl rfl (Nat.le_of_ble_eq_true rfl) ⟨(Nat.le_of_ble_eq_true rfl), (Nat.le_of_ble_eq_true rfl)⟩ (Nat.zero_add _) (Nat.zero_add _) ?_
  refine gq_istore_n hX dX4_vote_8 rfl rfl (Nat.le_of_ble_eq_true rfl) rfl ?_
  refine gq_iload_n hX dX4_vote_9 rfl rfl rfl ?_
  refine gq_iconst (v := nI 1) hX dX4_vote_10 rfl (by decide) ?_
  refine gq_icmp_neT (tgt := 24) hX dX4_vote_11 rfl (by rw [hF]; decide) ?_
  refine gq_iload_n hX dX4_vote_24 rfl rfl rfl ?_
  refine gq_iconst (v := nI 2) hX dX4_vote_25 rfl (by decide) ?_
  refine gq_icmp_neT (tgt := 39) hX dX4_vote_26 rfl (by rw [hF]; decide) ?_
  refine gq_aload_n hX dX4_vote_39 rfl rfl rfl ?_
  refine gq_getf hX dX4_vote_40 rfl fX4_29 hW.c0 rfl ?_
  refine gq_aload_n hX dX4_vote_43 rfl rfl rfl ?_
  refine gq_getf hX dX4_vote_44 rfl fX4_10 hW.c0 rfl ?_
  refine gq_callVw hX dX4_vote_47 rfl vX4_73 (ch_keep0 hb hW hwf hn hr) rfl hW.c1 rfl rfl (Nat.le_of_ble_eq_true rfl) ⟨(Nat.le_of_ble_eq_true rfl), (Nat.le_of_ble_eq_true rfl)⟩ (Nat.zero_add _) (Nat.zero_add _) ?_
  intro M2 hW2
  refine gq_aload_n hX dX4_vote_50 rfl rfl rfl ?_
  refine gq_getf hX dX4_vote_51 rfl fX4_10 hW2.c0 rfl ?_
  refine gq_iload_n hX dX4_vote_54 rfl rfl rfl ?_
  refine gq_callVw hX dX4_vote_55 rfl vX4_205 (Ct.stwS hb hW2 (i := 0) (by decide) (keepK_st (by decide)) (ct_holdVote (hb.bS (i := 0) (by decide)) hwf hn ho hmv ha ho2)) rfl (hW2.s0 (i := 0) (by decide)) rfl rfl (Nat.le_of_ble_eq_true rfl) ⟨(Nat.le_of_ble_eq_true rfl), (Nat.le_of_ble_eq_true rfl)⟩ (Nat.zero_add _) (Nat.zero_add _) ?_
  intro M3 hW3
  exact gq_zret hX hQ dX4_vote_58 rfl (by rcases carI_01 (K.2.1 0) nc k a o with h | h <;> rw [h] <;> rfl) ⟨rfl, hW3⟩

set_option maxRecDepth 100000 in
set_option maxHeartbeats 4000000 in
theorem cf_gust_1 {E : Ev} {b : Nat → Nat} {K : Kt} {M : Hp} (hb : Lay E 162 b) (hW : Wd E b K M) {nc nt no : Nat} (hwf : Wf (K.2.1 0) nc nt no) (s : Int32) (hF : gusF s = nI 1) : CtX E mX4_gust [.ref (b 0), .int s] M NoR (PXe "java/lang/IllegalArgumentException" M) 1 6 := by
  refine CtX.of gmX4_gust (ls := [.ref (b 0), .int s]) rfl rfl (Nat.le_of_ble_eq_true rfl) ?_
  intro X hX Q hQ hQ2
  have hwf2 := hwf
  obtain ⟨hnc, hncl, hnt, hntl, hno, hnol⟩ := hwf2
  refine gq_aload_n hX dX4_gust_0 rfl rfl rfl ?_
  refine gq_getf hX dX4_gust_1 rfl fX4_10 hW.c0 rfl ?_
  refine gq_iload_n hX dX4_gust_4 rfl rfl rfl ?_
  refine gq_callVe hX dX4_gust_5 rfl vX4_246 (Ct.rdS hb hW (i := 0) (by decide) rfl (ct_gustFault (hb.bS (i := 0) (by decide)) _)) rfl (hW.s0 (i := 0) (by decide)) rfl rfl (Nat.le_of_ble_eq_true rfl) ⟨(Nat.le_of_ble_eq_true rfl), (Nat.le_of_ble_eq_true rfl)⟩ (Nat.zero_add _) (Nat.zero_add _) ?_
  refine gq_iconst (v := nI 1) hX dX4_gust_8 rfl (by decide) ?_
  refine gq_icmp_neF (tgt := 22) hX dX4_gust_9 rfl rfl hF ?_
  exact gq_throw hX hQ2 rfl th61 rfl (List.mem_of_getElem? (i := 21) rfl) dX4_gust_12 dX4_gust_15 dX4_gust_16 dX4_gust_18 dX4_gust_21 (Nat.le_of_ble_eq_true rfl) (Nat.le_of_ble_eq_true rfl) (Nat.le_of_ble_eq_true rfl) (Nat.le_of_ble_eq_true rfl) ⟨rfl, rfl⟩

set_option maxRecDepth 100000 in
set_option maxHeartbeats 4000000 in
theorem cf_gust_ok {E : Ev} {b : Nat → Nat} {K : Kt} {M : Hp} (hb : Lay E 162 b) (hW : Wd E b K M) {nc nt no : Nat} (hwf : Wf (K.2.1 0) nc nt no) (hn : Nar (K.2.1 0)) {nx kp : Nat} (hr : RgC K nx kp) (s : Int32) (hF : gusF s = 0) (hmo : ∀ k, k < no → ∃ a, a < nc ∧ (K.2.1 0).2 9 k = nI a) : Ct E mX4_gust [.ref (b 0), .int s] M (WR E b (some (.int (gusS (K.2.1 0) nt no s).2)) (kSs (keepK K 0 nx kp nc nt no) 0 (gusS (K.2.1 0) nt no s).1)) 0 0 := by
  refine Ct.of gmX4_gust (ls := [.ref (b 0), .int s]) rfl rfl (Nat.le_of_ble_eq_true rfl) ?_
  intro X hX Q hQ
  have hwf2 := hwf
  obtain ⟨hnc, hncl, hnt, hntl, hno, hnol⟩ := hwf2
  refine gq_aload_n hX dX4_gust_0 rfl rfl rfl ?_
  refine gq_getf hX dX4_gust_1 rfl fX4_10 hW.c0 rfl ?_
  refine gq_iload_n hX dX4_gust_4 rfl rfl rfl ?_
  refine gq_callVe hX dX4_gust_5 rfl vX4_246 (Ct.rdS hb hW (i := 0) (by decide) rfl (ct_gustFault (hb.bS (i := 0) (by decide)) _)) rfl (hW.s0 (i := 0) (by decide)) rfl rfl (Nat.le_of_ble_eq_true rfl) ⟨(Nat.le_of_ble_eq_true rfl), (Nat.le_of_ble_eq_true rfl)⟩ (Nat.zero_add _) (Nat.zero_add _) ?_
  refine gq_iconst (v := nI 1) hX dX4_gust_8 rfl (by decide) ?_
  refine gq_icmp_neT (tgt := 22) hX dX4_gust_9 rfl (by rw [hF]; decide) ?_
  refine gq_aload_n hX dX4_gust_22 rfl rfl rfl ?_
  refine gq_getf hX dX4_gust_23 rfl fX4_29 hW.c0 rfl ?_
  refine gq_aload_n hX dX4_gust_26 rfl rfl rfl ?_
  refine gq_getf hX dX4_gust_27 rfl fX4_10 hW.c0 rfl ?_
  refine gq_callVw hX dX4_gust_30 rfl vX4_73 (ch_keep0 hb hW hwf hn hr) rfl hW.c1 rfl rfl (Nat.le_of_ble_eq_true rfl) ⟨(Nat.le_of_ble_eq_true rfl), (Nat.le_of_ble_eq_true rfl)⟩ (Nat.zero_add _) (Nat.zero_add _) ?_
  intro M2 hW2
  refine gq_aload_n hX dX4_gust_33 rfl rfl rfl ?_
  refine gq_getf hX dX4_gust_34 rfl fX4_10 hW2.c0 rfl ?_
  refine gq_iload_n hX dX4_gust_37 rfl rfl rfl ?_
  refine gq_callVw hX dX4_gust_38 rfl vX4_251 (Ct.stwS hb hW2 (i := 0) (by decide) (keepK_st (by decide)) (ct_blowGust (hb.bS (i := 0) (by decide)) hwf hmo _)) rfl (hW2.s0 (i := 0) (by decide)) rfl rfl (Nat.le_of_ble_eq_true rfl) ⟨(Nat.le_of_ble_eq_true rfl), (Nat.le_of_ble_eq_true rfl)⟩ (Nat.zero_add _) (Nat.zero_add _) ?_
  intro M3 hW3
  exact gq_iret hX hQ dX4_gust_41 rfl ⟨rfl, hW3⟩

set_option maxRecDepth 100000 in
set_option maxHeartbeats 4000000 in
theorem cf_pass_1 {E : Ev} {b : Nat → Nat} {K : Kt} {M : Hp} (hb : Lay E 162 b) (hW : Wd E b K M) {nc nt no : Nat} (hwf : Wf (K.2.1 0) nc nt no) (c0 : Int32) (hF : pasF c0 = nI 1) : CtX E mX4_pass [.ref (b 0), .int c0] M NoR (PXe "java/lang/IllegalArgumentException" M) 1 6 := by
  refine CtX.of gmX4_pass (ls := [.ref (b 0), .int c0]) rfl rfl (Nat.le_of_ble_eq_true rfl) ?_
  intro X hX Q hQ hQ2
  have hwf2 := hwf
  obtain ⟨hnc, hncl, hnt, hntl, hno, hnol⟩ := hwf2
  refine gq_aload_n hX dX4_pass_0 rfl rfl rfl ?_
  refine gq_getf hX dX4_pass_1 rfl fX4_10 hW.c0 rfl ?_
  refine gq_iload_n hX dX4_pass_4 rfl rfl rfl ?_
  refine gq_callVe hX dX4_pass_5 rfl vX4_254 (Ct.rdS hb hW (i := 0) (by decide) rfl (ct_passFault (hb.bS (i := 0) (by decide)) _)) rfl (hW.s0 (i := 0) (by decide)) rfl rfl (Nat.le_of_ble_eq_true rfl) ⟨(Nat.le_of_ble_eq_true rfl), (Nat.le_of_ble_eq_true rfl)⟩ (Nat.zero_add _) (Nat.zero_add _) ?_
  refine gq_iconst (v := nI 1) hX dX4_pass_8 rfl (by decide) ?_
  refine gq_icmp_neF (tgt := 23) hX dX4_pass_9 rfl rfl hF ?_
  exact gq_throwW hX hQ2 rfl th61 rfl (List.mem_of_getElem? (i := 22) rfl) dX4_pass_12 dX4_pass_15 dX4_pass_16 dX4_pass_19 dX4_pass_22 (Nat.le_of_ble_eq_true rfl) (Nat.le_of_ble_eq_true rfl) (Nat.le_of_ble_eq_true rfl) (Nat.le_of_ble_eq_true rfl) ⟨rfl, rfl⟩

set_option maxRecDepth 100000 in
set_option maxHeartbeats 4000000 in
theorem cf_pass_ok {E : Ev} {b : Nat → Nat} {K : Kt} {M : Hp} (hb : Lay E 162 b) (hW : Wd E b K M) {nc nt no : Nat} (hwf : Wf (K.2.1 0) nc nt no) (hn : Nar (K.2.1 0)) {nx kp : Nat} (hr : RgC K nx kp) (c0 : Int32) (hF : pasF c0 = 0) {h : Nat} (hh : h < 1000) (hcj : c0 = nI h) : Ct E mX4_pass [.ref (b 0), .int c0] M (WR E b (some (.int (pasS (K.2.1 0) nt nc h).2)) (kSs (keepK K 0 nx kp nc nt no) 0 (pasS (K.2.1 0) nt nc h).1)) 0 0 := by
  refine Ct.of gmX4_pass (ls := [.ref (b 0), .int c0]) rfl rfl (Nat.le_of_ble_eq_true rfl) ?_
  intro X hX Q hQ
  have hwf2 := hwf
  obtain ⟨hnc, hncl, hnt, hntl, hno, hnol⟩ := hwf2
  subst hcj
  refine gq_aload_n hX dX4_pass_0 rfl rfl rfl ?_
  refine gq_getf hX dX4_pass_1 rfl fX4_10 hW.c0 rfl ?_
  refine gq_iload_n hX dX4_pass_4 rfl rfl rfl ?_
  refine gq_callVe hX dX4_pass_5 rfl vX4_254 (Ct.rdS hb hW (i := 0) (by decide) rfl (ct_passFault (hb.bS (i := 0) (by decide)) _)) rfl (hW.s0 (i := 0) (by decide)) rfl rfl (Nat.le_of_ble_eq_true rfl) ⟨(Nat.le_of_ble_eq_true rfl), (Nat.le_of_ble_eq_true rfl)⟩ (Nat.zero_add _) (Nat.zero_add _) ?_
  refine gq_iconst (v := nI 1) hX dX4_pass_8 rfl (by decide) ?_
  refine gq_icmp_neT (tgt := 23) hX dX4_pass_9 rfl (by rw [hF]; decide) ?_
  refine gq_aload_n hX dX4_pass_23 rfl rfl rfl ?_
  refine gq_getf hX dX4_pass_24 rfl fX4_29 hW.c0 rfl ?_
  refine gq_aload_n hX dX4_pass_27 rfl rfl rfl ?_
  refine gq_getf hX dX4_pass_28 rfl fX4_10 hW.c0 rfl ?_
  refine gq_callVw hX dX4_pass_31 rfl vX4_73 (ch_keep0 hb hW hwf hn hr) rfl hW.c1 rfl rfl (Nat.le_of_ble_eq_true rfl) ⟨(Nat.le_of_ble_eq_true rfl), (Nat.le_of_ble_eq_true rfl)⟩ (Nat.zero_add _) (Nat.zero_add _) ?_
  intro M2 hW2
  refine gq_aload_n hX dX4_pass_34 rfl rfl rfl ?_
  refine gq_getf hX dX4_pass_35 rfl fX4_10 hW2.c0 rfl ?_
  refine gq_iload_n hX dX4_pass_38 rfl rfl rfl ?_
  refine gq_callVw hX dX4_pass_39 rfl vX4_259 (Ct.stwS hb hW2 (i := 0) (by decide) (keepK_st (by decide)) (ct_passHours (hb.bS (i := 0) (by decide)) hwf hh)) rfl (hW2.s0 (i := 0) (by decide)) rfl rfl (Nat.le_of_ble_eq_true rfl) ⟨(Nat.le_of_ble_eq_true rfl), (Nat.le_of_ble_eq_true rfl)⟩ (Nat.zero_add _) (Nat.zero_add _) ?_
  intro M3 hW3
  exact gq_iret hX hQ dX4_pass_42 rfl ⟨rfl, hW3⟩

set_option maxRecDepth 100000 in
set_option maxHeartbeats 4000000 in
theorem cm_1 {E : Ev} {b : Nat → Nat} {K : Kt} {M : Hp} (hb : Lay E 162 b) (hW : Wd E b K M) (kd c0 o : Int32) : CtX E mX4_makeMotion [.ref (b 0), .int kd, .int c0, .int o, .int (nI 1)] M NoR (PXe "java/lang/IndexOutOfBoundsException" M) 1 6 := by
  refine CtX.of gmX4_makeMotion (ls := [.ref (b 0), .int kd, .int c0, .int o, .int (nI 1)]) rfl rfl (Nat.le_of_ble_eq_true rfl) ?_
  intro X hX Q hQ hQ2
  refine gq_iload hX dX4_makeMotion_0 rfl rfl ?_
  refine gq_iconst (v := nI 1) hX dX4_makeMotion_2 rfl (by decide) ?_
  refine gq_icmp_neF (tgt := 17) hX dX4_makeMotion_3 rfl rfl rfl ?_
  exact gq_throwW hX hQ2 rfl th94 rfl (List.mem_of_getElem? (i := 12) rfl) dX4_makeMotion_6 dX4_makeMotion_9 dX4_makeMotion_10 dX4_makeMotion_13 dX4_makeMotion_16 (Nat.le_of_ble_eq_true rfl) (Nat.le_of_ble_eq_true rfl) (Nat.le_of_ble_eq_true rfl) (Nat.le_of_ble_eq_true rfl) ⟨rfl, rfl⟩

set_option maxRecDepth 100000 in
set_option maxHeartbeats 4000000 in
theorem cm_2 {E : Ev} {b : Nat → Nat} {K : Kt} {M : Hp} (hb : Lay E 162 b) (hW : Wd E b K M) (kd c0 o : Int32) : CtX E mX4_makeMotion [.ref (b 0), .int kd, .int c0, .int o, .int (nI 2)] M NoR (PXe "java/lang/IllegalStateException" M) 1 6 := by
  refine CtX.of gmX4_makeMotion (ls := [.ref (b 0), .int kd, .int c0, .int o, .int (nI 2)]) rfl rfl (Nat.le_of_ble_eq_true rfl) ?_
  intro X hX Q hQ hQ2
  refine gq_iload hX dX4_makeMotion_0 rfl rfl ?_
  refine gq_iconst (v := nI 1) hX dX4_makeMotion_2 rfl (by decide) ?_
  refine gq_icmp_neT (tgt := 17) hX dX4_makeMotion_3 rfl (by decide) ?_
  refine gq_iload hX dX4_makeMotion_17 rfl rfl ?_
  refine gq_iconst (v := nI 2) hX dX4_makeMotion_19 rfl (by decide) ?_
  refine gq_icmp_neF (tgt := 34) hX dX4_makeMotion_20 rfl rfl rfl ?_
  exact gq_throwW hX hQ2 rfl th68 rfl (List.mem_of_getElem? (i := 13) rfl) dX4_makeMotion_23 dX4_makeMotion_26 dX4_makeMotion_27 dX4_makeMotion_30 dX4_makeMotion_33 (Nat.le_of_ble_eq_true rfl) (Nat.le_of_ble_eq_true rfl) (Nat.le_of_ble_eq_true rfl) (Nat.le_of_ble_eq_true rfl) ⟨rfl, rfl⟩

set_option maxRecDepth 100000 in
set_option maxHeartbeats 4000000 in
theorem cm_ok {E : Ev} {b : Nat → Nat} {K : Kt} {M : Hp} (hb : Lay E 162 b) (hW : Wd E b K M) {nc nt no : Nat} (hwf : Wf (K.2.1 0) nc nt no) (hn : Nar (K.2.1 0)) {nx kp : Nat} (hr : RgC K nx kp) (hlt : no < 8) {kd c0 o fv : Int32} (hfv : fv = 0) (hkd : vp_nar .char kd = kd) : Ct E mX4_makeMotion [.ref (b 0), .int kd, .int c0, .int o, .int fv] M (WR E b (some (.int ((K.2.1 0).1 8))) (kSs (keepK K 0 nx kp nc nt no) 0 (motS (K.2.1 0) no kd c0 o))) 0 0 := by
  refine Ct.of gmX4_makeMotion (ls := [.ref (b 0), .int kd, .int c0, .int o, .int fv]) rfl rfl (Nat.le_of_ble_eq_true rfl) ?_
  intro X hX Q hQ
  refine gq_iload hX dX4_makeMotion_0 rfl rfl ?_
  refine gq_iconst (v := nI 1) hX dX4_makeMotion_2 rfl (by decide) ?_
  refine gq_icmp_neT (tgt := 17) hX dX4_makeMotion_3 rfl (by rw [hfv]; decide) ?_
  refine gq_iload hX dX4_makeMotion_17 rfl rfl ?_
  refine gq_iconst (v := nI 2) hX dX4_makeMotion_19 rfl (by decide) ?_
  refine gq_icmp_neT (tgt := 34) hX dX4_makeMotion_20 rfl (by rw [hfv]; decide) ?_
  refine gq_aload_n hX dX4_makeMotion_34 rfl rfl rfl ?_
  refine gq_getf hX dX4_makeMotion_35 rfl fX4_29 hW.c0 rfl ?_
  refine gq_aload_n hX dX4_makeMotion_38 rfl rfl rfl ?_
  refine gq_getf hX dX4_makeMotion_39 rfl fX4_10 hW.c0 rfl ?_
  refine gq_callVw hX dX4_makeMotion_42 rfl vX4_73 (ch_keep0 hb hW hwf hn hr) rfl hW.c1 rfl rfl (Nat.le_of_ble_eq_true rfl) ⟨(Nat.le_of_ble_eq_true rfl), (Nat.le_of_ble_eq_true rfl)⟩ (Nat.zero_add _) (Nat.zero_add _) ?_
  intro M2 hW2
  refine gq_aload_n hX dX4_makeMotion_45 rfl rfl rfl ?_
  refine gq_getf hX dX4_makeMotion_46 rfl fX4_10 hW2.c0 rfl ?_
  refine gq_iload_n hX dX4_makeMotion_49 rfl rfl rfl ?_
  refine gq_iload_n hX dX4_makeMotion_50 rfl rfl rfl ?_
  refine gq_iload_n hX dX4_makeMotion_51 rfl rfl rfl ?_
  refine gq_callVw hX dX4_makeMotion_52 rfl vX4_410 (Ct.stwS hb hW2 (i := 0) (by decide) (keepK_st (by decide)) (ct_enterMotion (hb.bS (i := 0) (by decide)) hwf hlt hkd)) rfl (hW2.s0 (i := 0) (by decide)) rfl rfl (Nat.le_of_ble_eq_true rfl) ⟨(Nat.le_of_ble_eq_true rfl), (Nat.le_of_ble_eq_true rfl)⟩ (Nat.zero_add _) (Nat.zero_add _) ?_
  intro M3 hW3
  exact gq_iret hX hQ dX4_makeMotion_55 rfl ⟨rfl, hW3⟩

set_option maxRecDepth 100000 in
set_option maxHeartbeats 4000000 in
theorem cf_rent_1 {E : Ev} {b : Nat → Nat} {K : Kt} {M : Hp} (hb : Lay E 162 b) (hW : Wd E b K M) {nc nt no : Nat} (hwf : Wf (K.2.1 0) nc nt no) (c0 o : Int32) (hF : tmoF (K.2.1 0) nc nt c0 o = nI 1) : CtX E mX4_moveToRent [.ref (b 0), .int c0, .int o] M NoR (PXe "java/lang/IndexOutOfBoundsException" M) 1 6 := by
  refine CtX.of gmX4_moveToRent (ls := [.ref (b 0), .int c0, .int o]) rfl rfl (Nat.le_of_ble_eq_true rfl) ?_
  intro X hX Q hQ hQ2
  refine gq_aload_n hX dX4_moveToRent_0 rfl rfl rfl ?_
  refine gq_bipush (v := nI 114) hX dX4_moveToRent_1 rfl (by decide) ?_
  refine gq_iload_n hX dX4_moveToRent_3 rfl rfl rfl ?_
  refine gq_iload_n hX dX4_moveToRent_4 rfl rfl rfl ?_
  refine gq_aload_n hX dX4_moveToRent_5 rfl rfl rfl ?_
  refine gq_getf hX dX4_moveToRent_6 rfl fX4_10 hW.c0 rfl ?_
  refine gq_iload_n hX dX4_moveToRent_9 rfl rfl rfl ?_
  refine gq_iload_n hX dX4_moveToRent_10 rfl rfl rfl ?_
  refine gq_callVe hX dX4_moveToRent_11 rfl vX4_164 (Ct.rdS hb hW (i := 0) (by decide) rfl (ct_tailMotionFault (hb.bS (i := 0) (by decide)) hwf _ _)) rfl (hW.s0 (i := 0) (by decide)) rfl rfl (Nat.le_of_ble_eq_true rfl) ⟨(Nat.le_of_ble_eq_true rfl), (Nat.le_of_ble_eq_true rfl)⟩ (Nat.zero_add _) (Nat.zero_add _) ?_
  rw [hF]
  exact gq_callVXe (nc1 := 0) (ns1 := 0) hX dX4_moveToRent_14 vX4_167 (cm_1 hb hW _ _ _) rfl hW.c0 rfl rfl (Nat.le_of_ble_eq_true rfl) ⟨(Nat.le_of_ble_eq_true rfl), (Nat.le_of_ble_eq_true rfl)⟩ rfl rfl (gx_out hX hQ2 rfl ⟨rfl, rfl⟩)

set_option maxRecDepth 100000 in
set_option maxHeartbeats 4000000 in
theorem cf_rent_2 {E : Ev} {b : Nat → Nat} {K : Kt} {M : Hp} (hb : Lay E 162 b) (hW : Wd E b K M) {nc nt no : Nat} (hwf : Wf (K.2.1 0) nc nt no) (c0 o : Int32) (hF : tmoF (K.2.1 0) nc nt c0 o = nI 2) : CtX E mX4_moveToRent [.ref (b 0), .int c0, .int o] M NoR (PXe "java/lang/IllegalStateException" M) 1 6 := by
  refine CtX.of gmX4_moveToRent (ls := [.ref (b 0), .int c0, .int o]) rfl rfl (Nat.le_of_ble_eq_true rfl) ?_
  intro X hX Q hQ hQ2
  refine gq_aload_n hX dX4_moveToRent_0 rfl rfl rfl ?_
  refine gq_bipush (v := nI 114) hX dX4_moveToRent_1 rfl (by decide) ?_
  refine gq_iload_n hX dX4_moveToRent_3 rfl rfl rfl ?_
  refine gq_iload_n hX dX4_moveToRent_4 rfl rfl rfl ?_
  refine gq_aload_n hX dX4_moveToRent_5 rfl rfl rfl ?_
  refine gq_getf hX dX4_moveToRent_6 rfl fX4_10 hW.c0 rfl ?_
  refine gq_iload_n hX dX4_moveToRent_9 rfl rfl rfl ?_
  refine gq_iload_n hX dX4_moveToRent_10 rfl rfl rfl ?_
  refine gq_callVe hX dX4_moveToRent_11 rfl vX4_164 (Ct.rdS hb hW (i := 0) (by decide) rfl (ct_tailMotionFault (hb.bS (i := 0) (by decide)) hwf _ _)) rfl (hW.s0 (i := 0) (by decide)) rfl rfl (Nat.le_of_ble_eq_true rfl) ⟨(Nat.le_of_ble_eq_true rfl), (Nat.le_of_ble_eq_true rfl)⟩ (Nat.zero_add _) (Nat.zero_add _) ?_
  rw [hF]
  exact gq_callVXe (nc1 := 0) (ns1 := 0) hX dX4_moveToRent_14 vX4_167 (cm_2 hb hW _ _ _) rfl hW.c0 rfl rfl (Nat.le_of_ble_eq_true rfl) ⟨(Nat.le_of_ble_eq_true rfl), (Nat.le_of_ble_eq_true rfl)⟩ rfl rfl (gx_out hX hQ2 rfl ⟨rfl, rfl⟩)

set_option maxRecDepth 100000 in
set_option maxHeartbeats 4000000 in
theorem cf_rent_ok {E : Ev} {b : Nat → Nat} {K : Kt} {M : Hp} (hb : Lay E 162 b) (hW : Wd E b K M) {nc nt no : Nat} (hwf : Wf (K.2.1 0) nc nt no) (hn : Nar (K.2.1 0)) {nx kp : Nat} (hr : RgC K nx kp) (c0 o : Int32) (hF : tmoF (K.2.1 0) nc nt c0 o = 0) (hlt : no < 8) : Ct E mX4_moveToRent [.ref (b 0), .int c0, .int o] M (WR E b (some (.int ((K.2.1 0).1 8))) (kSs (keepK K 0 nx kp nc nt no) 0 (motS (K.2.1 0) no (nI 114) c0 o))) 0 0 := by
  refine Ct.of gmX4_moveToRent (ls := [.ref (b 0), .int c0, .int o]) rfl rfl (Nat.le_of_ble_eq_true rfl) ?_
  intro X hX Q hQ
  refine gq_aload_n hX dX4_moveToRent_0 rfl rfl rfl ?_
  refine gq_bipush (v := nI 114) hX dX4_moveToRent_1 rfl (by decide) ?_
  refine gq_iload_n hX dX4_moveToRent_3 rfl rfl rfl ?_
  refine gq_iload_n hX dX4_moveToRent_4 rfl rfl rfl ?_
  refine gq_aload_n hX dX4_moveToRent_5 rfl rfl rfl ?_
  refine gq_getf hX dX4_moveToRent_6 rfl fX4_10 hW.c0 rfl ?_
  refine gq_iload_n hX dX4_moveToRent_9 rfl rfl rfl ?_
  refine gq_iload_n hX dX4_moveToRent_10 rfl rfl rfl ?_
  refine gq_callVe hX dX4_moveToRent_11 rfl vX4_164 (Ct.rdS hb hW (i := 0) (by decide) rfl (ct_tailMotionFault (hb.bS (i := 0) (by decide)) hwf _ _)) rfl (hW.s0 (i := 0) (by decide)) rfl rfl (Nat.le_of_ble_eq_true rfl) ⟨(Nat.le_of_ble_eq_true rfl), (Nat.le_of_ble_eq_true rfl)⟩ (Nat.zero_add _) (Nat.zero_add _) ?_
  refine gq_callVw hX dX4_moveToRent_14 rfl vX4_167 (cm_ok hb hW hwf hn hr hlt hF (by decide)) rfl hW.c0 rfl rfl (Nat.le_of_ble_eq_true rfl) ⟨(Nat.le_of_ble_eq_true rfl), (Nat.le_of_ble_eq_true rfl)⟩ (Nat.zero_add _) (Nat.zero_add _) ?_
  intro M2 hW2
  exact gq_iret hX hQ dX4_moveToRent_17 rfl ⟨rfl, hW2⟩

set_option maxRecDepth 100000 in
set_option maxHeartbeats 4000000 in
theorem cf_return_1 {E : Ev} {b : Nat → Nat} {K : Kt} {M : Hp} (hb : Lay E 162 b) (hW : Wd E b K M) {nc nt no : Nat} (hwf : Wf (K.2.1 0) nc nt no) (c0 o : Int32) (hF : tmoF (K.2.1 0) nc nt c0 o = nI 1) : CtX E mX4_moveToReturn [.ref (b 0), .int c0, .int o] M NoR (PXe "java/lang/IndexOutOfBoundsException" M) 1 6 := by
  refine CtX.of gmX4_moveToReturn (ls := [.ref (b 0), .int c0, .int o]) rfl rfl (Nat.le_of_ble_eq_true rfl) ?_
  intro X hX Q hQ hQ2
  refine gq_aload_n hX dX4_moveToReturn_0 rfl rfl rfl ?_
  refine gq_bipush (v := nI 116) hX dX4_moveToReturn_1 rfl (by decide) ?_
  refine gq_iload_n hX dX4_moveToReturn_3 rfl rfl rfl ?_
  refine gq_iload_n hX dX4_moveToReturn_4 rfl rfl rfl ?_
  refine gq_aload_n hX dX4_moveToReturn_5 rfl rfl rfl ?_
  refine gq_getf hX dX4_moveToReturn_6 rfl fX4_10 hW.c0 rfl ?_
  refine gq_iload_n hX dX4_moveToReturn_9 rfl rfl rfl ?_
  refine gq_iload_n hX dX4_moveToReturn_10 rfl rfl rfl ?_
  refine gq_callVe hX dX4_moveToReturn_11 rfl vX4_164 (Ct.rdS hb hW (i := 0) (by decide) rfl (ct_tailMotionFault (hb.bS (i := 0) (by decide)) hwf _ _)) rfl (hW.s0 (i := 0) (by decide)) rfl rfl (Nat.le_of_ble_eq_true rfl) ⟨(Nat.le_of_ble_eq_true rfl), (Nat.le_of_ble_eq_true rfl)⟩ (Nat.zero_add _) (Nat.zero_add _) ?_
  rw [hF]
  exact gq_callVXe (nc1 := 0) (ns1 := 0) hX dX4_moveToReturn_14 vX4_167 (cm_1 hb hW _ _ _) rfl hW.c0 rfl rfl (Nat.le_of_ble_eq_true rfl) ⟨(Nat.le_of_ble_eq_true rfl), (Nat.le_of_ble_eq_true rfl)⟩ rfl rfl (gx_out hX hQ2 rfl ⟨rfl, rfl⟩)

set_option maxRecDepth 100000 in
set_option maxHeartbeats 4000000 in
theorem cf_return_2 {E : Ev} {b : Nat → Nat} {K : Kt} {M : Hp} (hb : Lay E 162 b) (hW : Wd E b K M) {nc nt no : Nat} (hwf : Wf (K.2.1 0) nc nt no) (c0 o : Int32) (hF : tmoF (K.2.1 0) nc nt c0 o = nI 2) : CtX E mX4_moveToReturn [.ref (b 0), .int c0, .int o] M NoR (PXe "java/lang/IllegalStateException" M) 1 6 := by
  refine CtX.of gmX4_moveToReturn (ls := [.ref (b 0), .int c0, .int o]) rfl rfl (Nat.le_of_ble_eq_true rfl) ?_
  intro X hX Q hQ hQ2
  refine gq_aload_n hX dX4_moveToReturn_0 rfl rfl rfl ?_
  refine gq_bipush (v := nI 116) hX dX4_moveToReturn_1 rfl (by decide) ?_
  refine gq_iload_n hX dX4_moveToReturn_3 rfl rfl rfl ?_
  refine gq_iload_n hX dX4_moveToReturn_4 rfl rfl rfl ?_
  refine gq_aload_n hX dX4_moveToReturn_5 rfl rfl rfl ?_
  refine gq_getf hX dX4_moveToReturn_6 rfl fX4_10 hW.c0 rfl ?_
  refine gq_iload_n hX dX4_moveToReturn_9 rfl rfl rfl ?_
  refine gq_iload_n hX dX4_moveToReturn_10 rfl rfl rfl ?_
  refine gq_callVe hX dX4_moveToReturn_11 rfl vX4_164 (Ct.rdS hb hW (i := 0) (by decide) rfl (ct_tailMotionFault (hb.bS (i := 0) (by decide)) hwf _ _)) rfl (hW.s0 (i := 0) (by decide)) rfl rfl (Nat.le_of_ble_eq_true rfl) ⟨(Nat.le_of_ble_eq_true rfl), (Nat.le_of_ble_eq_true rfl)⟩ (Nat.zero_add _) (Nat.zero_add _) ?_
  rw [hF]
  exact gq_callVXe (nc1 := 0) (ns1 := 0) hX dX4_moveToReturn_14 vX4_167 (cm_2 hb hW _ _ _) rfl hW.c0 rfl rfl (Nat.le_of_ble_eq_true rfl) ⟨(Nat.le_of_ble_eq_true rfl), (Nat.le_of_ble_eq_true rfl)⟩ rfl rfl (gx_out hX hQ2 rfl ⟨rfl, rfl⟩)

set_option maxRecDepth 100000 in
set_option maxHeartbeats 4000000 in
theorem cf_return_ok {E : Ev} {b : Nat → Nat} {K : Kt} {M : Hp} (hb : Lay E 162 b) (hW : Wd E b K M) {nc nt no : Nat} (hwf : Wf (K.2.1 0) nc nt no) (hn : Nar (K.2.1 0)) {nx kp : Nat} (hr : RgC K nx kp) (c0 o : Int32) (hF : tmoF (K.2.1 0) nc nt c0 o = 0) (hlt : no < 8) : Ct E mX4_moveToReturn [.ref (b 0), .int c0, .int o] M (WR E b (some (.int ((K.2.1 0).1 8))) (kSs (keepK K 0 nx kp nc nt no) 0 (motS (K.2.1 0) no (nI 116) c0 o))) 0 0 := by
  refine Ct.of gmX4_moveToReturn (ls := [.ref (b 0), .int c0, .int o]) rfl rfl (Nat.le_of_ble_eq_true rfl) ?_
  intro X hX Q hQ
  refine gq_aload_n hX dX4_moveToReturn_0 rfl rfl rfl ?_
  refine gq_bipush (v := nI 116) hX dX4_moveToReturn_1 rfl (by decide) ?_
  refine gq_iload_n hX dX4_moveToReturn_3 rfl rfl rfl ?_
  refine gq_iload_n hX dX4_moveToReturn_4 rfl rfl rfl ?_
  refine gq_aload_n hX dX4_moveToReturn_5 rfl rfl rfl ?_
  refine gq_getf hX dX4_moveToReturn_6 rfl fX4_10 hW.c0 rfl ?_
  refine gq_iload_n hX dX4_moveToReturn_9 rfl rfl rfl ?_
  refine gq_iload_n hX dX4_moveToReturn_10 rfl rfl rfl ?_
  refine gq_callVe hX dX4_moveToReturn_11 rfl vX4_164 (Ct.rdS hb hW (i := 0) (by decide) rfl (ct_tailMotionFault (hb.bS (i := 0) (by decide)) hwf _ _)) rfl (hW.s0 (i := 0) (by decide)) rfl rfl (Nat.le_of_ble_eq_true rfl) ⟨(Nat.le_of_ble_eq_true rfl), (Nat.le_of_ble_eq_true rfl)⟩ (Nat.zero_add _) (Nat.zero_add _) ?_
  refine gq_callVw hX dX4_moveToReturn_14 rfl vX4_167 (cm_ok hb hW hwf hn hr hlt hF (by decide)) rfl hW.c0 rfl rfl (Nat.le_of_ble_eq_true rfl) ⟨(Nat.le_of_ble_eq_true rfl), (Nat.le_of_ble_eq_true rfl)⟩ (Nat.zero_add _) (Nat.zero_add _) ?_
  intro M2 hW2
  exact gq_iret hX hQ dX4_moveToReturn_17 rfl ⟨rfl, hW2⟩

set_option maxRecDepth 100000 in
set_option maxHeartbeats 4000000 in
theorem cf_ground_1 {E : Ev} {b : Nat → Nat} {K : Kt} {M : Hp} (hb : Lay E 162 b) (hW : Wd E b K M) {nc nt no : Nat} (hwf : Wf (K.2.1 0) nc nt no) (c0 o : Int32) (hF : gmoF (K.2.1 0) nc c0 o = nI 1) : CtX E mX4_moveToGround [.ref (b 0), .int c0, .int o] M NoR (PXe "java/lang/IndexOutOfBoundsException" M) 1 6 := by
  refine CtX.of gmX4_moveToGround (ls := [.ref (b 0), .int c0, .int o]) rfl rfl (Nat.le_of_ble_eq_true rfl) ?_
  intro X hX Q hQ hQ2
  refine gq_aload_n hX dX4_moveToGround_0 rfl rfl rfl ?_
  refine gq_bipush (v := nI 103) hX dX4_moveToGround_1 rfl (by decide) ?_
  refine gq_iload_n hX dX4_moveToGround_3 rfl rfl rfl ?_
  refine gq_iload_n hX dX4_moveToGround_4 rfl rfl rfl ?_
  refine gq_aload_n hX dX4_moveToGround_5 rfl rfl rfl ?_
  refine gq_getf hX dX4_moveToGround_6 rfl fX4_10 hW.c0 rfl ?_
  refine gq_iload_n hX dX4_moveToGround_9 rfl rfl rfl ?_
  refine gq_iload_n hX dX4_moveToGround_10 rfl rfl rfl ?_
  refine gq_callVe hX dX4_moveToGround_11 rfl vX4_171 (Ct.rdS hb hW (i := 0) (by decide) rfl (ct_groundMotionFault (hb.bS (i := 0) (by decide)) hwf _ _)) rfl (hW.s0 (i := 0) (by decide)) rfl rfl (Nat.le_of_ble_eq_true rfl) ⟨(Nat.le_of_ble_eq_true rfl), (Nat.le_of_ble_eq_true rfl)⟩ (Nat.zero_add _) (Nat.zero_add _) ?_
  rw [hF]
  exact gq_callVXe (nc1 := 0) (ns1 := 0) hX dX4_moveToGround_14 vX4_167 (cm_1 hb hW _ _ _) rfl hW.c0 rfl rfl (Nat.le_of_ble_eq_true rfl) ⟨(Nat.le_of_ble_eq_true rfl), (Nat.le_of_ble_eq_true rfl)⟩ rfl rfl (gx_out hX hQ2 rfl ⟨rfl, rfl⟩)

set_option maxRecDepth 100000 in
set_option maxHeartbeats 4000000 in
theorem cf_ground_2 {E : Ev} {b : Nat → Nat} {K : Kt} {M : Hp} (hb : Lay E 162 b) (hW : Wd E b K M) {nc nt no : Nat} (hwf : Wf (K.2.1 0) nc nt no) (c0 o : Int32) (hF : gmoF (K.2.1 0) nc c0 o = nI 2) : CtX E mX4_moveToGround [.ref (b 0), .int c0, .int o] M NoR (PXe "java/lang/IllegalStateException" M) 1 6 := by
  refine CtX.of gmX4_moveToGround (ls := [.ref (b 0), .int c0, .int o]) rfl rfl (Nat.le_of_ble_eq_true rfl) ?_
  intro X hX Q hQ hQ2
  refine gq_aload_n hX dX4_moveToGround_0 rfl rfl rfl ?_
  refine gq_bipush (v := nI 103) hX dX4_moveToGround_1 rfl (by decide) ?_
  refine gq_iload_n hX dX4_moveToGround_3 rfl rfl rfl ?_
  refine gq_iload_n hX dX4_moveToGround_4 rfl rfl rfl ?_
  refine gq_aload_n hX dX4_moveToGround_5 rfl rfl rfl ?_
  refine gq_getf hX dX4_moveToGround_6 rfl fX4_10 hW.c0 rfl ?_
  refine gq_iload_n hX dX4_moveToGround_9 rfl rfl rfl ?_
  refine gq_iload_n hX dX4_moveToGround_10 rfl rfl rfl ?_
  refine gq_callVe hX dX4_moveToGround_11 rfl vX4_171 (Ct.rdS hb hW (i := 0) (by decide) rfl (ct_groundMotionFault (hb.bS (i := 0) (by decide)) hwf _ _)) rfl (hW.s0 (i := 0) (by decide)) rfl rfl (Nat.le_of_ble_eq_true rfl) ⟨(Nat.le_of_ble_eq_true rfl), (Nat.le_of_ble_eq_true rfl)⟩ (Nat.zero_add _) (Nat.zero_add _) ?_
  rw [hF]
  exact gq_callVXe (nc1 := 0) (ns1 := 0) hX dX4_moveToGround_14 vX4_167 (cm_2 hb hW _ _ _) rfl hW.c0 rfl rfl (Nat.le_of_ble_eq_true rfl) ⟨(Nat.le_of_ble_eq_true rfl), (Nat.le_of_ble_eq_true rfl)⟩ rfl rfl (gx_out hX hQ2 rfl ⟨rfl, rfl⟩)

set_option maxRecDepth 100000 in
set_option maxHeartbeats 4000000 in
theorem cf_ground_ok {E : Ev} {b : Nat → Nat} {K : Kt} {M : Hp} (hb : Lay E 162 b) (hW : Wd E b K M) {nc nt no : Nat} (hwf : Wf (K.2.1 0) nc nt no) (hn : Nar (K.2.1 0)) {nx kp : Nat} (hr : RgC K nx kp) (c0 o : Int32) (hF : gmoF (K.2.1 0) nc c0 o = 0) (hlt : no < 8) : Ct E mX4_moveToGround [.ref (b 0), .int c0, .int o] M (WR E b (some (.int ((K.2.1 0).1 8))) (kSs (keepK K 0 nx kp nc nt no) 0 (motS (K.2.1 0) no (nI 103) c0 o))) 0 0 := by
  refine Ct.of gmX4_moveToGround (ls := [.ref (b 0), .int c0, .int o]) rfl rfl (Nat.le_of_ble_eq_true rfl) ?_
  intro X hX Q hQ
  refine gq_aload_n hX dX4_moveToGround_0 rfl rfl rfl ?_
  refine gq_bipush (v := nI 103) hX dX4_moveToGround_1 rfl (by decide) ?_
  refine gq_iload_n hX dX4_moveToGround_3 rfl rfl rfl ?_
  refine gq_iload_n hX dX4_moveToGround_4 rfl rfl rfl ?_
  refine gq_aload_n hX dX4_moveToGround_5 rfl rfl rfl ?_
  refine gq_getf hX dX4_moveToGround_6 rfl fX4_10 hW.c0 rfl ?_
  refine gq_iload_n hX dX4_moveToGround_9 rfl rfl rfl ?_
  refine gq_iload_n hX dX4_moveToGround_10 rfl rfl rfl ?_
  refine gq_callVe hX dX4_moveToGround_11 rfl vX4_171 (Ct.rdS hb hW (i := 0) (by decide) rfl (ct_groundMotionFault (hb.bS (i := 0) (by decide)) hwf _ _)) rfl (hW.s0 (i := 0) (by decide)) rfl rfl (Nat.le_of_ble_eq_true rfl) ⟨(Nat.le_of_ble_eq_true rfl), (Nat.le_of_ble_eq_true rfl)⟩ (Nat.zero_add _) (Nat.zero_add _) ?_
  refine gq_callVw hX dX4_moveToGround_14 rfl vX4_167 (cm_ok hb hW hwf hn hr hlt hF (by decide)) rfl hW.c0 rfl rfl (Nat.le_of_ble_eq_true rfl) ⟨(Nat.le_of_ble_eq_true rfl), (Nat.le_of_ble_eq_true rfl)⟩ (Nat.zero_add _) (Nat.zero_add _) ?_
  intro M2 hW2
  exact gq_iret hX hQ dX4_moveToGround_17 rfl ⟨rfl, hW2⟩

set_option maxRecDepth 100000 in
set_option maxHeartbeats 4000000 in
theorem cf_undo_1 {E : Ev} {b : Nat → Nat} {K : Kt} {M : Hp} (hb : Lay E 162 b) (hW : Wd E b K M) (hk : K.1 5 = nI 0) : CtX E mX4_undo [.ref (b 0)] M NoR (PXe "java/lang/IllegalStateException" M) 1 6 := by
  refine CtX.of gmX4_undo (ls := [.ref (b 0)]) rfl rfl (Nat.le_of_ble_eq_true rfl) ?_
  intro X hX Q hQ hQ2
  refine gq_aload_n hX dX4_undo_0 rfl rfl rfl ?_
  refine gq_getf hX dX4_undo_1 rfl fX4_29 hW.c0 rfl ?_
  refine gq_getf hX dX4_undo_4 rfl fX4_380 hW.c1 rfl ?_
  refine gq_if_neF (tgt := 21) hX dX4_undo_7 rfl rfl (by rw [hk]; rfl) ?_
  exact gq_throwW hX hQ2 rfl th68 rfl (List.mem_of_getElem? (i := 33) rfl) dX4_undo_10 dX4_undo_13 dX4_undo_14 dX4_undo_17 dX4_undo_20 (Nat.le_of_ble_eq_true rfl) (Nat.le_of_ble_eq_true rfl) (Nat.le_of_ble_eq_true rfl) (Nat.le_of_ble_eq_true rfl) ⟨rfl, rfl⟩

set_option maxRecDepth 100000 in
set_option maxHeartbeats 4000000 in
theorem cf_undo_ok {E : Ev} {b : Nat → Nat} {K : Kt} {M : Hp} (hb : Lay E 162 b) (hW : Wd E b K M) {nc nt no nx kp : Nat} (hr : RgC K nx (kp + 1)) (hwf : Wf (K.2.1 (3 + (nx + 7) % 8)) nc nt no) (hn : Nar (K.2.1 (3 + (nx + 7) % 8))) : Ct E mX4_undo [.ref (b 0)] M (WR E b (some (.int (nI kp))) (backK K nx kp nc nt no)) 0 0 := by
  refine Ct.of gmX4_undo (ls := [.ref (b 0)]) rfl rfl (Nat.le_of_ble_eq_true rfl) ?_
  intro X hX Q hQ
  refine gq_aload_n hX dX4_undo_0 rfl rfl rfl ?_
  refine gq_getf hX dX4_undo_1 rfl fX4_29 hW.c0 rfl ?_
  refine gq_getf hX dX4_undo_4 rfl fX4_380 hW.c1 rfl ?_
  refine gq_if_neT (tgt := 21) hX dX4_undo_7 rfl (by rw [hr.2.1]; exact fun e => by have := (nI_eq (by have := hr.2.2.2; omega) (by decide)).mp (show nI (kp + 1) = nI 0 from e); omega) ?_
  refine gq_aload_n hX dX4_undo_21 rfl rfl rfl ?_
  refine gq_getf hX dX4_undo_22 rfl fX4_29 hW.c0 rfl ?_
  refine gq_aload_n hX dX4_undo_25 rfl rfl rfl ?_
  refine gq_getf hX dX4_undo_26 rfl fX4_10 hW.c0 rfl ?_
  refine gq_callVw hX dX4_undo_29 rfl vX4_385 (ch_back hb hW hr hwf hn) rfl hW.c1 rfl rfl (Nat.le_of_ble_eq_true rfl) ⟨(Nat.le_of_ble_eq_true rfl), (Nat.le_of_ble_eq_true rfl)⟩ (Nat.zero_add _) (Nat.zero_add _) ?_
  intro M2 hW2
  refine gq_aload_n hX dX4_undo_32 rfl rfl rfl ?_
  refine gq_getf hX dX4_undo_33 rfl fX4_29 hW2.c0 rfl ?_
  refine gq_getf hX dX4_undo_36 rfl fX4_380 hW2.c1 rfl ?_
  exact gq_iret hX hQ dX4_undo_39 rfl ⟨rfl, hW2⟩

set_option maxRecDepth 100000 in
set_option maxHeartbeats 4000000 in
theorem cf_save {E : Ev} {b : Nat → Nat} {K : Kt} {M : Hp} (hb : Lay E 162 b) (hW : Wd E b K M) {nc nt no : Nat} (hwf : Wf (K.2.1 0) nc nt no) (hn : Nar (K.2.1 0)) : Ct E mX4_save [.ref (b 0)] M (WR E b (some (.int ((K.2.1 0).1 7))) (kSc (kSs K 2 (copS (K.2.1 2) (K.2.1 0) nc nt no)) 0 (nI 1))) 0 0 := by
  refine Ct.of gmX4_save (ls := [.ref (b 0)]) rfl rfl (Nat.le_of_ble_eq_true rfl) ?_
  intro X hX Q hQ
  refine gq_aload_n hX dX4_save_0 rfl rfl rfl ?_
  refine gq_getf hX dX4_save_1 rfl fX4_19 hW.c0 rfl ?_
  refine gq_aload_n hX dX4_save_4 rfl rfl rfl ?_
  refine gq_getf hX dX4_save_5 rfl fX4_10 hW.c0 rfl ?_
  refine gq_callVw hX dX4_save_8 rfl vX4_266 (Ct.cpW hb hW (i := 2) (j := 0) (by decide) (by decide) (by decide) hwf hn) rfl (hW.s0 (i := 2) (by decide)) rfl rfl (Nat.le_of_ble_eq_true rfl) ⟨(Nat.le_of_ble_eq_true rfl), (Nat.le_of_ble_eq_true rfl)⟩ (Nat.zero_add _) (Nat.zero_add _) ?_
  intro M2 hW2
  refine gq_aload_n hX dX4_save_11 rfl rfl rfl ?_
  refine gq_iconst (v := nI 1) hX dX4_save_12 rfl (by decide) ?_
  refine gq_putW hX dX4_save_13 rfl fX4_22 rfl rfl rfl hW2.c0 (Nat.le_of_ble_eq_true rfl) (hb.2 0 (by decide)) (hW2.w0_3 hb _) ?_
  intro M3 hW3
  refine gq_aload_n hX dX4_save_16 rfl rfl rfl ?_
  refine gq_getf hX dX4_save_17 rfl fX4_10 hW3.c0 rfl ?_
  refine gq_getf hX dX4_save_20 rfl fX4_209 (hW3.s0 (i := 0) (by decide)) rfl ?_
  refine gq_getf hX dX4_save_23 rfl fX4_213 (hW3.s6 (i := 0) (by decide)) rfl ?_
  exact gq_iret hX hQ dX4_save_26 rfl ⟨rfl, hW3⟩

set_option maxRecDepth 100000 in
set_option maxHeartbeats 4000000 in
theorem cf_restore_1 {E : Ev} {b : Nat → Nat} {K : Kt} {M : Hp} (hb : Lay E 162 b) (hW : Wd E b K M) (hk : K.1 0 = 0) : CtX E mX4_restore [.ref (b 0)] M NoR (PXe "java/lang/IllegalStateException" M) 1 6 := by
  refine CtX.of gmX4_restore (ls := [.ref (b 0)]) rfl rfl (Nat.le_of_ble_eq_true rfl) ?_
  intro X hX Q hQ hQ2
  refine gq_aload_n hX dX4_restore_0 rfl rfl rfl ?_
  refine gq_getf hX dX4_restore_1 rfl fX4_22 hW.c0 rfl ?_
  refine gq_if_neF (tgt := 18) hX dX4_restore_4 rfl rfl hk ?_
  exact gq_throwW hX hQ2 rfl th68 rfl (List.mem_of_getElem? (i := 34) rfl) dX4_restore_7 dX4_restore_10 dX4_restore_11 dX4_restore_14 dX4_restore_17 (Nat.le_of_ble_eq_true rfl) (Nat.le_of_ble_eq_true rfl) (Nat.le_of_ble_eq_true rfl) (Nat.le_of_ble_eq_true rfl) ⟨rfl, rfl⟩

set_option maxRecDepth 100000 in
set_option maxHeartbeats 4000000 in
theorem cf_restore_ok {E : Ev} {b : Nat → Nat} {K : Kt} {M : Hp} (hb : Lay E 162 b) (hW : Wd E b K M) (hk : ¬ K.1 0 = 0) {nc nt no : Nat} (hwf : Wf (K.2.1 2) nc nt no) (hn : Nar (K.2.1 2)) : Ct E mX4_restore [.ref (b 0)] M (WR E b (some (.int ((copS (K.2.1 0) (K.2.1 2) nc nt no).1 7))) (kSc (kSs K 0 (copS (K.2.1 0) (K.2.1 2) nc nt no)) 5 (nI 0))) 0 0 := by
  refine Ct.of gmX4_restore (ls := [.ref (b 0)]) rfl rfl (Nat.le_of_ble_eq_true rfl) ?_
  intro X hX Q hQ
  refine gq_aload_n hX dX4_restore_0 rfl rfl rfl ?_
  refine gq_getf hX dX4_restore_1 rfl fX4_22 hW.c0 rfl ?_
  refine gq_if_neT (tgt := 18) hX dX4_restore_4 rfl hk ?_
  refine gq_aload_n hX dX4_restore_18 rfl rfl rfl ?_
  refine gq_getf hX dX4_restore_19 rfl fX4_10 hW.c0 rfl ?_
  refine gq_aload_n hX dX4_restore_22 rfl rfl rfl ?_
  refine gq_getf hX dX4_restore_23 rfl fX4_19 hW.c0 rfl ?_
  refine gq_callVw hX dX4_restore_26 rfl vX4_266 (Ct.cpW hb hW (i := 0) (j := 2) (by decide) (by decide) (by decide) hwf hn) rfl (hW.s0 (i := 0) (by decide)) rfl rfl (Nat.le_of_ble_eq_true rfl) ⟨(Nat.le_of_ble_eq_true rfl), (Nat.le_of_ble_eq_true rfl)⟩ (Nat.zero_add _) (Nat.zero_add _) ?_
  intro M2 hW2
  refine gq_aload_n hX dX4_restore_29 rfl rfl rfl ?_
  refine gq_getf hX dX4_restore_30 rfl fX4_29 hW2.c0 rfl ?_
  refine gq_callVw hX dX4_restore_33 rfl vX4_390 (ch_forget hb hW2) rfl hW2.c1 rfl rfl (Nat.le_of_ble_eq_true rfl) ⟨(Nat.le_of_ble_eq_true rfl), (Nat.le_of_ble_eq_true rfl)⟩ (Nat.zero_add _) (Nat.zero_add _) ?_
  intro M3 hW3
  refine gq_aload_n hX dX4_restore_36 rfl rfl rfl ?_
  refine gq_getf hX dX4_restore_37 rfl fX4_10 hW3.c0 rfl ?_
  refine gq_getf hX dX4_restore_40 rfl fX4_209 (hW3.s0 (i := 0) (by decide)) rfl ?_
  refine gq_getf hX dX4_restore_43 rfl fX4_213 (hW3.s6 (i := 0) (by decide)) rfl ?_
  exact gq_iret hX hQ dX4_restore_46 rfl ⟨rfl, hW3⟩

