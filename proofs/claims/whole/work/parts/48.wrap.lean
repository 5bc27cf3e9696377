/-- it returns r, and the world is one of R's -/
def RsC (E : Ev) (b : Nat → Nat) (r : Value) (R : Kt → Prop) : Option Value → Hp → Prop := fun v M1 => v = some r ∧ ∃ K1, Wd E b K1 M1 ∧ R K1
def ThC (E : Ev) (b : Nat → Nat) (x : String) (R : Kt → Prop) : String → Hp → Prop := fun y M1 => y = x ∧ ∃ K1, Wd E b K1 M1 ∧ R K1
def LoR (R : Kt → Prop) (x : Int64) : Kt → Prop := fun K2 => ∃ K1 lo, R K1 ∧ K2 = kLo K1 lo ∧ lo 0 = x
def DoR (R : Kt → Prop) (x : UInt64) : Kt → Prop := fun K2 => ∃ K1 lo, R K1 ∧ K2 = kDo K1 lo ∧ lo 0 = x
theorem CtX.imp {E : Ev} {μ : Mth} {av : List Value} {M : Hp} {P P' : Option Value → Hp → Prop} {PX PX' : String → Hp → Prop} {mc ms : Nat} (h : ∀ v M1, P v M1 → P' v M1) (hx : ∀ y M1, PX y M1 → PX' y M1) (hc : CtX E μ av M P PX mc ms) : CtX E μ av M P' PX' mc ms := by
  unfold CtX vx_Met MetFree at *
  intro p e he hf hc2 s m args below h1 h2 h3 h4
  obtain ⟨n, o, g1, g2, g3, g4⟩ := hc p e he hf hc2 s m args below h1 h2 h3 h4
  refine ⟨n, o, g1, g2, g3, ?_⟩
  rcases g4 with ⟨⟨⟨v, M1, ho, hp, hr⟩, hF⟩, hL⟩ | ⟨q, ho, hT⟩
  · exact Or.inl ⟨⟨⟨v, M1, ho, h v M1 hp, hr⟩, hF⟩, hL⟩
  · refine Or.inr ⟨q, ho, ?_⟩
    unfold vx_T at *
    obtain ⟨nm, ce, L2, hc9, rest⟩ := hT
    obtain ⟨⟨M1, hp, hr⟩, hF⟩ := hc9
    exact ⟨nm, ce, L2, ⟨⟨M1, hx nm M1 hp, hr⟩, hF⟩, rest⟩
theorem PXe.th {E : Ev} {b : Nat → Nat} {K : Kt} {M : Hp} (hW : Wd E b K M) {x : String} : ∀ y M1, PXe x M y M1 → ThC E b x (fun K1 => K1 = K) y M1 := by
  rintro y M1 ⟨rfl, rfl⟩
  exact ⟨rfl, K, hW, rfl⟩
theorem eqR.rs {E : Ev} {b : Nat → Nat} {K : Kt} {M : Hp} (hW : Wd E b K M) {r : Value} : ∀ v M1, eqR (some r) M v M1 → RsC E b r (fun K1 => K1 = K) v M1 := by
  rintro y M1 ⟨rfl, rfl⟩
  exact ⟨rfl, K, hW, rfl⟩
theorem WR.rs {E : Ev} {b : Nat → Nat} {K1 : Kt} {r : Value} : ∀ v M1, WR E b (some r) K1 v M1 → RsC E b r (fun K2 => K2 = K1) v M1 := by
  rintro y M1 ⟨rfl, h⟩
  exact ⟨rfl, K1, h, rfl⟩
theorem nw2 {w : Cond} (i : Nat) (h : tables_1_2[i]? = some w) (hg : nwK w = true) : w ∈ nwT := List.mem_filter.mpr ⟨lw_in (List.mem_append_right _ (List.mem_append_left _ (List.mem_of_getElem? h))), hg⟩
theorem nw3 {w : Cond} (i : Nat) (h : tables_1_3[i]? = some w) (hg : nwK w = true) : w ∈ nwT := List.mem_filter.mpr ⟨lw_in (List.mem_append_right _ (List.mem_append_right _ (List.mem_append_left _ (List.mem_of_getElem? h)))), hg⟩
theorem nw6 {w : Cond} (i : Nat) (h : tables_1_6[i]? = some w) (hg : nwK w = true) : w ∈ nwT := List.mem_filter.mpr ⟨lw_in (List.mem_append_right _ (List.mem_append_right _ (List.mem_append_right _ (List.mem_append_right _ (List.mem_append_right _ (List.mem_append_left _ (List.mem_of_getElem? h))))))), hg⟩
set_option maxRecDepth 100000 in
set_option maxHeartbeats 4000000 in
theorem wl_addCommittee_ok {E : Ev} {b : Nat → Nat} {K : Kt} {M : Hp} (hb : Lay E 162 b) (hW : Wd E b K M) {p0 : Int32} {r : Int32} {R : Kt → Prop} {mc ms : Nat} (h1 : mc ≤ 23) (h2 : ms ≤ 3266) (h : Ct E mX4_addCommittee [.ref (b 0), .int p0] M (RsC E b (.int r) R) mc ms) : CtH E mL_addCommittee [.ref (b 0), .int p0, .ref (b 160)] M (RsC E b (.int (nI 0)) (LoR R r.toInt64)) 23 3266 := by
  refine CtH.of gmL_addCommittee (ls := [.ref (b 0), .int p0, .ref (b 160), hole]) rfl rfl (Nat.le_of_ble_eq_true rfl) ?_
  intro X hX Q hQ
  refine gq_bud (nc1 := mc) (ns1 := ms) h1 h2 ?_
  refine gq_aload_n hX dL_addCommittee_0 rfl rfl rfl ?_
  refine gq_iconst (v := nI 0) hX dL_addCommittee_1 rfl (by decide) ?_
  refine gq_aload_n hX dL_addCommittee_2 rfl rfl rfl ?_
  refine gq_iload_n hX dL_addCommittee_3 rfl rfl rfl ?_
  refine gq_callV (nc1 := 0) (ns1 := 0) hX dL_addCommittee_4 vL_7 h rfl hW.c0 rfl rfl (Nat.le_of_ble_eq_true rfl) ⟨(Nat.le_of_ble_eq_true rfl), (Nat.le_of_ble_eq_true rfl)⟩ rfl rfl ?_
  rintro v M1 ⟨rfl, K1, hW1, hR⟩
  refine gq_i2l hX dL_addCommittee_7 rfl ?_
  refine gq_last hX dL_addCommittee_8 rfl hW1.lo (vp_in_nI (by decide) (by decide)) (hb.2 160 (by decide)) rfl ?_
  have hW2 := hW1.wlo hb (vp_updL K1.2.2.2.2.2.2.1 (nI 0).toNatClampNeg r.toInt64)
  refine gq_goto (tgt := 18) hX dL_addCommittee_9 rfl ?_
  refine gq_iconst (v := nI 0) hX dL_addCommittee_18 rfl (by decide) ?_
  exact gq_iret hX hQ dL_addCommittee_19 rfl ⟨rfl, _, hW2, K1, _, hR, rfl, rfl⟩

set_option maxRecDepth 100000 in
set_option maxHeartbeats 4000000 in
theorem wl_addCommittee_1 {E : Ev} {b : Nat → Nat} {K : Kt} {M : Hp} (hb : Lay E 162 b) (hW : Wd E b K M) {p0 : Int32} {R : Kt → Prop} {mc ms : Nat} (h1 : mc ≤ 23) (h2 : ms ≤ 3266) (h : CtX E mX4_addCommittee [.ref (b 0), .int p0] M NoR (ThC E b "java/lang/IllegalArgumentException" R) mc ms) : CtH E mL_addCommittee [.ref (b 0), .int p0, .ref (b 160)] M (RsC E b (.int (nI 1)) R) 23 3266 := by
  refine CtH.of gmL_addCommittee (ls := [.ref (b 0), .int p0, .ref (b 160), hole]) rfl rfl (Nat.le_of_ble_eq_true rfl) ?_
  intro X hX Q hQ
  refine gq_bud (nc1 := mc) (ns1 := ms) h1 h2 ?_
  refine gq_aload_n hX dL_addCommittee_0 rfl rfl rfl ?_
  refine gq_iconst (v := nI 0) hX dL_addCommittee_1 rfl (by decide) ?_
  refine gq_aload_n hX dL_addCommittee_2 rfl rfl rfl ?_
  refine gq_iload_n hX dL_addCommittee_3 rfl rfl rfl ?_
  refine gq_callVX (nc1 := 0) (ns1 := 0) hX dL_addCommittee_4 vL_7 h rfl hW.c0 rfl rfl (Nat.le_of_ble_eq_true rfl) ⟨(Nat.le_of_ble_eq_true rfl), (Nat.le_of_ble_eq_true rfl)⟩ rfl rfl (fun v M1 z => z.elim) ?_
  rintro y M1 ⟨rfl, K1, hW1, hR⟩
  refine gx_catch hX (nm := "java/lang/IllegalArgumentException") [] { startPc := 0, endPc := 9, handlerPc := 12, catchType := 13 } [{ startPc := 0, endPc := 9, handlerPc := 15, catchType := 15 }] rfl (fun y hy => nomatch hy) (by decide) (by decide) (in2 237 rfl rfl) (nw2 173 rfl rfl) ?_
  intro qq
  refine gq_astore_n hX dL_addCommittee_12 rfl rfl (Nat.le_of_ble_eq_true rfl) rfl ?_
  refine gq_iconst (v := nI 1) hX dL_addCommittee_13 rfl (by decide) ?_
  exact gq_iret hX hQ dL_addCommittee_14 rfl ⟨rfl, K1, hW1, hR⟩

set_option maxRecDepth 100000 in
set_option maxHeartbeats 4000000 in
theorem wl_addCommittee_2 {E : Ev} {b : Nat → Nat} {K : Kt} {M : Hp} (hb : Lay E 162 b) (hW : Wd E b K M) {p0 : Int32} {R : Kt → Prop} {mc ms : Nat} (h1 : mc ≤ 23) (h2 : ms ≤ 3266) (h : CtX E mX4_addCommittee [.ref (b 0), .int p0] M NoR (ThC E b "java/lang/IllegalStateException" R) mc ms) : CtH E mL_addCommittee [.ref (b 0), .int p0, .ref (b 160)] M (RsC E b (.int (nI 2)) R) 23 3266 := by
  refine CtH.of gmL_addCommittee (ls := [.ref (b 0), .int p0, .ref (b 160), hole]) rfl rfl (Nat.le_of_ble_eq_true rfl) ?_
  intro X hX Q hQ
  refine gq_bud (nc1 := mc) (ns1 := ms) h1 h2 ?_
  refine gq_aload_n hX dL_addCommittee_0 rfl rfl rfl ?_
  refine gq_iconst (v := nI 0) hX dL_addCommittee_1 rfl (by decide) ?_
  refine gq_aload_n hX dL_addCommittee_2 rfl rfl rfl ?_
  refine gq_iload_n hX dL_addCommittee_3 rfl rfl rfl ?_
  refine gq_callVX (nc1 := 0) (ns1 := 0) hX dL_addCommittee_4 vL_7 h rfl hW.c0 rfl rfl (Nat.le_of_ble_eq_true rfl) ⟨(Nat.le_of_ble_eq_true rfl), (Nat.le_of_ble_eq_true rfl)⟩ rfl rfl (fun v M1 z => z.elim) ?_
  rintro y M1 ⟨rfl, K1, hW1, hR⟩
  refine gx_catch hX (nm := "java/lang/IllegalStateException") [{ startPc := 0, endPc := 9, handlerPc := 12, catchType := 13 }] { startPc := 0, endPc := 9, handlerPc := 15, catchType := 15 } [] rfl (fun y hy => by
      rcases List.mem_cons.mp hy with rfl | hy
      · exact ⟨by decide, _, in2 237 rfl rfl, by decide⟩
      exact nomatch hy) (by decide) (by decide) (in2 238 rfl rfl) (nw3 10 rfl rfl) ?_
  intro qq
  refine gq_astore_n hX dL_addCommittee_15 rfl rfl (Nat.le_of_ble_eq_true rfl) rfl ?_
  refine gq_iconst (v := nI 2) hX dL_addCommittee_16 rfl (by decide) ?_
  exact gq_iret hX hQ dL_addCommittee_17 rfl ⟨rfl, K1, hW1, hR⟩

set_option maxRecDepth 100000 in
set_option maxHeartbeats 4000000 in
theorem wl_addTail_ok {E : Ev} {b : Nat → Nat} {K : Kt} {M : Hp} (hb : Lay E 162 b) (hW : Wd E b K M) {p0 : Int32} {r : Int32} {R : Kt → Prop} {mc ms : Nat} (h1 : mc ≤ 23) (h2 : ms ≤ 3266) (h : Ct E mX4_addTail [.ref (b 0), .int p0] M (RsC E b (.int r) R) mc ms) : CtH E mL_addTail [.ref (b 0), .int p0, .ref (b 160)] M (RsC E b (.int (nI 0)) (LoR R r.toInt64)) 23 3266 := by
  refine CtH.of gmL_addTail (ls := [.ref (b 0), .int p0, .ref (b 160), hole]) rfl rfl (Nat.le_of_ble_eq_true rfl) ?_
  intro X hX Q hQ
  refine gq_bud (nc1 := mc) (ns1 := ms) h1 h2 ?_
  refine gq_aload_n hX dL_addTail_0 rfl rfl rfl ?_
  refine gq_iconst (v := nI 0) hX dL_addTail_1 rfl (by decide) ?_
  refine gq_aload_n hX dL_addTail_2 rfl rfl rfl ?_
  refine gq_iload_n hX dL_addTail_3 rfl rfl rfl ?_
  refine gq_callV (nc1 := 0) (ns1 := 0) hX dL_addTail_4 vL_17 h rfl hW.c0 rfl rfl (Nat.le_of_ble_eq_true rfl) ⟨(Nat.le_of_ble_eq_true rfl), (Nat.le_of_ble_eq_true rfl)⟩ rfl rfl ?_
  rintro v M1 ⟨rfl, K1, hW1, hR⟩
  refine gq_i2l hX dL_addTail_7 rfl ?_
  refine gq_last hX dL_addTail_8 rfl hW1.lo (vp_in_nI (by decide) (by decide)) (hb.2 160 (by decide)) rfl ?_
  have hW2 := hW1.wlo hb (vp_updL K1.2.2.2.2.2.2.1 (nI 0).toNatClampNeg r.toInt64)
  refine gq_goto (tgt := 18) hX dL_addTail_9 rfl ?_
  refine gq_iconst (v := nI 0) hX dL_addTail_18 rfl (by decide) ?_
  exact gq_iret hX hQ dL_addTail_19 rfl ⟨rfl, _, hW2, K1, _, hR, rfl, rfl⟩

set_option maxRecDepth 100000 in
set_option maxHeartbeats 4000000 in
theorem wl_addTail_1 {E : Ev} {b : Nat → Nat} {K : Kt} {M : Hp} (hb : Lay E 162 b) (hW : Wd E b K M) {p0 : Int32} {R : Kt → Prop} {mc ms : Nat} (h1 : mc ≤ 23) (h2 : ms ≤ 3266) (h : CtX E mX4_addTail [.ref (b 0), .int p0] M NoR (ThC E b "java/lang/IllegalArgumentException" R) mc ms) : CtH E mL_addTail [.ref (b 0), .int p0, .ref (b 160)] M (RsC E b (.int (nI 1)) R) 23 3266 := by
  refine CtH.of gmL_addTail (ls := [.ref (b 0), .int p0, .ref (b 160), hole]) rfl rfl (Nat.le_of_ble_eq_true rfl) ?_
  intro X hX Q hQ
  refine gq_bud (nc1 := mc) (ns1 := ms) h1 h2 ?_
  refine gq_aload_n hX dL_addTail_0 rfl rfl rfl ?_
  refine gq_iconst (v := nI 0) hX dL_addTail_1 rfl (by decide) ?_
  refine gq_aload_n hX dL_addTail_2 rfl rfl rfl ?_
  refine gq_iload_n hX dL_addTail_3 rfl rfl rfl ?_
  refine gq_callVX (nc1 := 0) (ns1 := 0) hX dL_addTail_4 vL_17 h rfl hW.c0 rfl rfl (Nat.le_of_ble_eq_true rfl) ⟨(Nat.le_of_ble_eq_true rfl), (Nat.le_of_ble_eq_true rfl)⟩ rfl rfl (fun v M1 z => z.elim) ?_
  rintro y M1 ⟨rfl, K1, hW1, hR⟩
  refine gx_catch hX (nm := "java/lang/IllegalArgumentException") [] { startPc := 0, endPc := 9, handlerPc := 12, catchType := 13 } [{ startPc := 0, endPc := 9, handlerPc := 15, catchType := 15 }] rfl (fun y hy => nomatch hy) (by decide) (by decide) (in2 237 rfl rfl) (nw2 173 rfl rfl) ?_
  intro qq
  refine gq_astore_n hX dL_addTail_12 rfl rfl (Nat.le_of_ble_eq_true rfl) rfl ?_
  refine gq_iconst (v := nI 1) hX dL_addTail_13 rfl (by decide) ?_
  exact gq_iret hX hQ dL_addTail_14 rfl ⟨rfl, K1, hW1, hR⟩

set_option maxRecDepth 100000 in
set_option maxHeartbeats 4000000 in
theorem wl_addTail_2 {E : Ev} {b : Nat → Nat} {K : Kt} {M : Hp} (hb : Lay E 162 b) (hW : Wd E b K M) {p0 : Int32} {R : Kt → Prop} {mc ms : Nat} (h1 : mc ≤ 23) (h2 : ms ≤ 3266) (h : CtX E mX4_addTail [.ref (b 0), .int p0] M NoR (ThC E b "java/lang/IllegalStateException" R) mc ms) : CtH E mL_addTail [.ref (b 0), .int p0, .ref (b 160)] M (RsC E b (.int (nI 2)) R) 23 3266 := by
  refine CtH.of gmL_addTail (ls := [.ref (b 0), .int p0, .ref (b 160), hole]) rfl rfl (Nat.le_of_ble_eq_true rfl) ?_
  intro X hX Q hQ
  refine gq_bud (nc1 := mc) (ns1 := ms) h1 h2 ?_
  refine gq_aload_n hX dL_addTail_0 rfl rfl rfl ?_
  refine gq_iconst (v := nI 0) hX dL_addTail_1 rfl (by decide) ?_
  refine gq_aload_n hX dL_addTail_2 rfl rfl rfl ?_
  refine gq_iload_n hX dL_addTail_3 rfl rfl rfl ?_
  refine gq_callVX (nc1 := 0) (ns1 := 0) hX dL_addTail_4 vL_17 h rfl hW.c0 rfl rfl (Nat.le_of_ble_eq_true rfl) ⟨(Nat.le_of_ble_eq_true rfl), (Nat.le_of_ble_eq_true rfl)⟩ rfl rfl (fun v M1 z => z.elim) ?_
  rintro y M1 ⟨rfl, K1, hW1, hR⟩
  refine gx_catch hX (nm := "java/lang/IllegalStateException") [{ startPc := 0, endPc := 9, handlerPc := 12, catchType := 13 }] { startPc := 0, endPc := 9, handlerPc := 15, catchType := 15 } [] rfl (fun y hy => by
      rcases List.mem_cons.mp hy with rfl | hy
      · exact ⟨by decide, _, in2 237 rfl rfl, by decide⟩
      exact nomatch hy) (by decide) (by decide) (in2 238 rfl rfl) (nw3 10 rfl rfl) ?_
  intro qq
  refine gq_astore_n hX dL_addTail_15 rfl rfl (Nat.le_of_ble_eq_true rfl) rfl ?_
  refine gq_iconst (v := nI 2) hX dL_addTail_16 rfl (by decide) ?_
  exact gq_iret hX hQ dL_addTail_17 rfl ⟨rfl, K1, hW1, hR⟩

set_option maxRecDepth 100000 in
set_option maxHeartbeats 4000000 in
theorem wl_pay_ok {E : Ev} {b : Nat → Nat} {K : Kt} {M : Hp} (hb : Lay E 162 b) (hW : Wd E b K M) {p0 : Int32} {p1 : Int32} {r : Int32} {R : Kt → Prop} {mc ms : Nat} (h1 : mc ≤ 23) (h2 : ms ≤ 3266) (h : Ct E mX4_pay [.ref (b 0), .int p0, .int p1] M (RsC E b (.int r) R) mc ms) : CtH E mL_pay [.ref (b 0), .int p0, .int p1, .ref (b 160)] M (RsC E b (.int (nI 0)) (LoR R r.toInt64)) 23 3266 := by
  refine CtH.of gmL_pay (ls := [.ref (b 0), .int p0, .int p1, .ref (b 160), hole]) rfl rfl (Nat.le_of_ble_eq_true rfl) ?_
  intro X hX Q hQ
  refine gq_bud (nc1 := mc) (ns1 := ms) h1 h2 ?_
  refine gq_aload_n hX dL_pay_0 rfl rfl rfl ?_
  refine gq_iconst (v := nI 0) hX dL_pay_1 rfl (by decide) ?_
  refine gq_aload_n hX dL_pay_2 rfl rfl rfl ?_
  refine gq_iload_n hX dL_pay_3 rfl rfl rfl ?_
  refine gq_iload_n hX dL_pay_4 rfl rfl rfl ?_
  refine gq_callV (nc1 := 0) (ns1 := 0) hX dL_pay_5 vL_20 h rfl hW.c0 rfl rfl (Nat.le_of_ble_eq_true rfl) ⟨(Nat.le_of_ble_eq_true rfl), (Nat.le_of_ble_eq_true rfl)⟩ rfl rfl ?_
  rintro v M1 ⟨rfl, K1, hW1, hR⟩
  refine gq_i2l hX dL_pay_8 rfl ?_
  refine gq_last hX dL_pay_9 rfl hW1.lo (vp_in_nI (by decide) (by decide)) (hb.2 160 (by decide)) rfl ?_
  have hW2 := hW1.wlo hb (vp_updL K1.2.2.2.2.2.2.1 (nI 0).toNatClampNeg r.toInt64)
  refine gq_goto (tgt := 25) hX dL_pay_10 rfl ?_
  refine gq_iconst (v := nI 0) hX dL_pay_25 rfl (by decide) ?_
  exact gq_iret hX hQ dL_pay_26 rfl ⟨rfl, _, hW2, K1, _, hR, rfl, rfl⟩

set_option maxRecDepth 100000 in
set_option maxHeartbeats 4000000 in
theorem wl_pay_1 {E : Ev} {b : Nat → Nat} {K : Kt} {M : Hp} (hb : Lay E 162 b) (hW : Wd E b K M) {p0 : Int32} {p1 : Int32} {R : Kt → Prop} {mc ms : Nat} (h1 : mc ≤ 23) (h2 : ms ≤ 3266) (h : CtX E mX4_pay [.ref (b 0), .int p0, .int p1] M NoR (ThC E b "java/lang/IndexOutOfBoundsException" R) mc ms) : CtH E mL_pay [.ref (b 0), .int p0, .int p1, .ref (b 160)] M (RsC E b (.int (nI 1)) R) 23 3266 := by
  refine CtH.of gmL_pay (ls := [.ref (b 0), .int p0, .int p1, .ref (b 160), hole]) rfl rfl (Nat.le_of_ble_eq_true rfl) ?_
  intro X hX Q hQ
  refine gq_bud (nc1 := mc) (ns1 := ms) h1 h2 ?_
  refine gq_aload_n hX dL_pay_0 rfl rfl rfl ?_
  refine gq_iconst (v := nI 0) hX dL_pay_1 rfl (by decide) ?_
  refine gq_aload_n hX dL_pay_2 rfl rfl rfl ?_
  refine gq_iload_n hX dL_pay_3 rfl rfl rfl ?_
  refine gq_iload_n hX dL_pay_4 rfl rfl rfl ?_
  refine gq_callVX (nc1 := 0) (ns1 := 0) hX dL_pay_5 vL_20 h rfl hW.c0 rfl rfl (Nat.le_of_ble_eq_true rfl) ⟨(Nat.le_of_ble_eq_true rfl), (Nat.le_of_ble_eq_true rfl)⟩ rfl rfl (fun v M1 z => z.elim) ?_
  rintro y M1 ⟨rfl, K1, hW1, hR⟩
  refine gx_catch hX (nm := "java/lang/IndexOutOfBoundsException") [] { startPc := 0, endPc := 10, handlerPc := 13, catchType := 24 } [{ startPc := 0, endPc := 10, handlerPc := 17, catchType := 13 }, { startPc := 0, endPc := 10, handlerPc := 21, catchType := 26 }] rfl (fun y hy => nomatch hy) (by decide) (by decide) (in3 54 rfl rfl) (nw2 101 rfl rfl) ?_
  intro qq
  refine gq_astore hX dL_pay_13 rfl (Nat.le_of_ble_eq_true rfl) rfl ?_
  refine gq_iconst (v := nI 1) hX dL_pay_15 rfl (by decide) ?_
  exact gq_iret hX hQ dL_pay_16 rfl ⟨rfl, K1, hW1, hR⟩

set_option maxRecDepth 100000 in
set_option maxHeartbeats 4000000 in
theorem wl_pay_2 {E : Ev} {b : Nat → Nat} {K : Kt} {M : Hp} (hb : Lay E 162 b) (hW : Wd E b K M) {p0 : Int32} {p1 : Int32} {R : Kt → Prop} {mc ms : Nat} (h1 : mc ≤ 23) (h2 : ms ≤ 3266) (h : CtX E mX4_pay [.ref (b 0), .int p0, .int p1] M NoR (ThC E b "java/lang/IllegalArgumentException" R) mc ms) : CtH E mL_pay [.ref (b 0), .int p0, .int p1, .ref (b 160)] M (RsC E b (.int (nI 2)) R) 23 3266 := by
  refine CtH.of gmL_pay (ls := [.ref (b 0), .int p0, .int p1, .ref (b 160), hole]) rfl rfl (Nat.le_of_ble_eq_true rfl) ?_
  intro X hX Q hQ
  refine gq_bud (nc1 := mc) (ns1 := ms) h1 h2 ?_
  refine gq_aload_n hX dL_pay_0 rfl rfl rfl ?_
  refine gq_iconst (v := nI 0) hX dL_pay_1 rfl (by decide) ?_
  refine gq_aload_n hX dL_pay_2 rfl rfl rfl ?_
  refine gq_iload_n hX dL_pay_3 rfl rfl rfl ?_
  refine gq_iload_n hX dL_pay_4 rfl rfl rfl ?_
  refine gq_callVX (nc1 := 0) (ns1 := 0) hX dL_pay_5 vL_20 h rfl hW.c0 rfl rfl (Nat.le_of_ble_eq_true rfl) ⟨(Nat.le_of_ble_eq_true rfl), (Nat.le_of_ble_eq_true rfl)⟩ rfl rfl (fun v M1 z => z.elim) ?_
  rintro y M1 ⟨rfl, K1, hW1, hR⟩
  refine gx_catch hX (nm := "java/lang/IllegalArgumentException") [{ startPc := 0, endPc := 10, handlerPc := 13, catchType := 24 }] { startPc := 0, endPc := 10, handlerPc := 17, catchType := 13 } [{ startPc := 0, endPc := 10, handlerPc := 21, catchType := 26 }] rfl (fun y hy => by
      rcases List.mem_cons.mp hy with rfl | hy
      · exact ⟨by decide, _, in3 54 rfl rfl, by decide⟩
      exact nomatch hy) (by decide) (by decide) (in2 237 rfl rfl) (nw2 173 rfl rfl) ?_
  intro qq
  refine gq_astore hX dL_pay_17 rfl (Nat.le_of_ble_eq_true rfl) rfl ?_
  refine gq_iconst (v := nI 2) hX dL_pay_19 rfl (by decide) ?_
  exact gq_iret hX hQ dL_pay_20 rfl ⟨rfl, K1, hW1, hR⟩

set_option maxRecDepth 100000 in
set_option maxHeartbeats 4000000 in
theorem wl_pay_3 {E : Ev} {b : Nat → Nat} {K : Kt} {M : Hp} (hb : Lay E 162 b) (hW : Wd E b K M) {p0 : Int32} {p1 : Int32} {R : Kt → Prop} {mc ms : Nat} (h1 : mc ≤ 23) (h2 : ms ≤ 3266) (h : CtX E mX4_pay [.ref (b 0), .int p0, .int p1] M NoR (ThC E b "java/lang/UnsupportedOperationException" R) mc ms) : CtH E mL_pay [.ref (b 0), .int p0, .int p1, .ref (b 160)] M (RsC E b (.int (nI 3)) R) 23 3266 := by
  refine CtH.of gmL_pay (ls := [.ref (b 0), .int p0, .int p1, .ref (b 160), hole]) rfl rfl (Nat.le_of_ble_eq_true rfl) ?_
  intro X hX Q hQ
  refine gq_bud (nc1 := mc) (ns1 := ms) h1 h2 ?_
  refine gq_aload_n hX dL_pay_0 rfl rfl rfl ?_
  refine gq_iconst (v := nI 0) hX dL_pay_1 rfl (by decide) ?_
  refine gq_aload_n hX dL_pay_2 rfl rfl rfl ?_
  refine gq_iload_n hX dL_pay_3 rfl rfl rfl ?_
  refine gq_iload_n hX dL_pay_4 rfl rfl rfl ?_
  refine gq_callVX (nc1 := 0) (ns1 := 0) hX dL_pay_5 vL_20 h rfl hW.c0 rfl rfl (Nat.le_of_ble_eq_true rfl) ⟨(Nat.le_of_ble_eq_true rfl), (Nat.le_of_ble_eq_true rfl)⟩ rfl rfl (fun v M1 z => z.elim) ?_
  rintro y M1 ⟨rfl, K1, hW1, hR⟩
  refine gx_catch hX (nm := "java/lang/UnsupportedOperationException") [{ startPc := 0, endPc := 10, handlerPc := 13, catchType := 24 }, { startPc := 0, endPc := 10, handlerPc := 17, catchType := 13 }] { startPc := 0, endPc := 10, handlerPc := 21, catchType := 26 } [] rfl (fun y hy => by
      rcases List.mem_cons.mp hy with rfl | hy
      · exact ⟨by decide, _, in3 54 rfl rfl, by decide⟩
      rcases List.mem_cons.mp hy with rfl | hy
      · exact ⟨by decide, _, in2 237 rfl rfl, by decide⟩
      exact nomatch hy) (by decide) (by decide) (in3 75 rfl rfl) (nw3 87 rfl rfl) ?_
  intro qq
  refine gq_astore hX dL_pay_21 rfl (Nat.le_of_ble_eq_true rfl) rfl ?_
  refine gq_iconst (v := nI 3) hX dL_pay_23 rfl (by decide) ?_
  exact gq_iret hX hQ dL_pay_24 rfl ⟨rfl, K1, hW1, hR⟩

set_option maxRecDepth 100000 in
set_option maxHeartbeats 4000000 in
theorem wl_launch_ok {E : Ev} {b : Nat → Nat} {K : Kt} {M : Hp} (hb : Lay E 162 b) (hW : Wd E b K M) {p0 : Int32} {r : Int32} {R : Kt → Prop} {mc ms : Nat} (h1 : mc ≤ 23) (h2 : ms ≤ 3266) (h : Ct E mX4_launch [.ref (b 0), .int p0] M (RsC E b (.int r) R) mc ms) : CtH E mL_launch [.ref (b 0), .int p0, .ref (b 160)] M (RsC E b (.int (nI 0)) (LoR R r.toInt64)) 23 3266 := by
  refine CtH.of gmL_launch (ls := [.ref (b 0), .int p0, .ref (b 160), hole]) rfl rfl (Nat.le_of_ble_eq_true rfl) ?_
  intro X hX Q hQ
  refine gq_bud (nc1 := mc) (ns1 := ms) h1 h2 ?_
  refine gq_aload_n hX dL_launch_0 rfl rfl rfl ?_
  refine gq_iconst (v := nI 0) hX dL_launch_1 rfl (by decide) ?_
  refine gq_aload_n hX dL_launch_2 rfl rfl rfl ?_
  refine gq_iload_n hX dL_launch_3 rfl rfl rfl ?_
  refine gq_callV (nc1 := 0) (ns1 := 0) hX dL_launch_4 vL_28 h rfl hW.c0 rfl rfl (Nat.le_of_ble_eq_true rfl) ⟨(Nat.le_of_ble_eq_true rfl), (Nat.le_of_ble_eq_true rfl)⟩ rfl rfl ?_
  rintro v M1 ⟨rfl, K1, hW1, hR⟩
  refine gq_i2l hX dL_launch_7 rfl ?_
  refine gq_last hX dL_launch_8 rfl hW1.lo (vp_in_nI (by decide) (by decide)) (hb.2 160 (by decide)) rfl ?_
  have hW2 := hW1.wlo hb (vp_updL K1.2.2.2.2.2.2.1 (nI 0).toNatClampNeg r.toInt64)
  refine gq_goto (tgt := 18) hX dL_launch_9 rfl ?_
  refine gq_iconst (v := nI 0) hX dL_launch_18 rfl (by decide) ?_
  exact gq_iret hX hQ dL_launch_19 rfl ⟨rfl, _, hW2, K1, _, hR, rfl, rfl⟩

set_option maxRecDepth 100000 in
set_option maxHeartbeats 4000000 in
theorem wl_launch_1 {E : Ev} {b : Nat → Nat} {K : Kt} {M : Hp} (hb : Lay E 162 b) (hW : Wd E b K M) {p0 : Int32} {R : Kt → Prop} {mc ms : Nat} (h1 : mc ≤ 23) (h2 : ms ≤ 3266) (h : CtX E mX4_launch [.ref (b 0), .int p0] M NoR (ThC E b "java/lang/IndexOutOfBoundsException" R) mc ms) : CtH E mL_launch [.ref (b 0), .int p0, .ref (b 160)] M (RsC E b (.int (nI 1)) R) 23 3266 := by
  refine CtH.of gmL_launch (ls := [.ref (b 0), .int p0, .ref (b 160), hole]) rfl rfl (Nat.le_of_ble_eq_true rfl) ?_
  intro X hX Q hQ
  refine gq_bud (nc1 := mc) (ns1 := ms) h1 h2 ?_
  refine gq_aload_n hX dL_launch_0 rfl rfl rfl ?_
  refine gq_iconst (v := nI 0) hX dL_launch_1 rfl (by decide) ?_
  refine gq_aload_n hX dL_launch_2 rfl rfl rfl ?_
  refine gq_iload_n hX dL_launch_3 rfl rfl rfl ?_
  refine gq_callVX (nc1 := 0) (ns1 := 0) hX dL_launch_4 vL_28 h rfl hW.c0 rfl rfl (Nat.le_of_ble_eq_true rfl) ⟨(Nat.le_of_ble_eq_true rfl), (Nat.le_of_ble_eq_true rfl)⟩ rfl rfl (fun v M1 z => z.elim) ?_
  rintro y M1 ⟨rfl, K1, hW1, hR⟩
  refine gx_catch hX (nm := "java/lang/IndexOutOfBoundsException") [] { startPc := 0, endPc := 9, handlerPc := 12, catchType := 24 } [{ startPc := 0, endPc := 9, handlerPc := 15, catchType := 15 }] rfl (fun y hy => nomatch hy) (by decide) (by decide) (in3 54 rfl rfl) (nw2 101 rfl rfl) ?_
  intro qq
  refine gq_astore_n hX dL_launch_12 rfl rfl (Nat.le_of_ble_eq_true rfl) rfl ?_
  refine gq_iconst (v := nI 1) hX dL_launch_13 rfl (by decide) ?_
  exact gq_iret hX hQ dL_launch_14 rfl ⟨rfl, K1, hW1, hR⟩

set_option maxRecDepth 100000 in
set_option maxHeartbeats 4000000 in
theorem wl_launch_2 {E : Ev} {b : Nat → Nat} {K : Kt} {M : Hp} (hb : Lay E 162 b) (hW : Wd E b K M) {p0 : Int32} {R : Kt → Prop} {mc ms : Nat} (h1 : mc ≤ 23) (h2 : ms ≤ 3266) (h : CtX E mX4_launch [.ref (b 0), .int p0] M NoR (ThC E b "java/lang/IllegalStateException" R) mc ms) : CtH E mL_launch [.ref (b 0), .int p0, .ref (b 160)] M (RsC E b (.int (nI 2)) R) 23 3266 := by
  refine CtH.of gmL_launch (ls := [.ref (b 0), .int p0, .ref (b 160), hole]) rfl rfl (Nat.le_of_ble_eq_true rfl) ?_
  intro X hX Q hQ
  refine gq_bud (nc1 := mc) (ns1 := ms) h1 h2 ?_
  refine gq_aload_n hX dL_launch_0 rfl rfl rfl ?_
  refine gq_iconst (v := nI 0) hX dL_launch_1 rfl (by decide) ?_
  refine gq_aload_n hX dL_launch_2 rfl rfl rfl ?_
  refine gq_iload_n hX dL_launch_3 rfl rfl rfl ?_
  refine gq_callVX (nc1 := 0) (ns1 := 0) hX dL_launch_4 vL_28 h rfl hW.c0 rfl rfl (Nat.le_of_ble_eq_true rfl) ⟨(Nat.le_of_ble_eq_true rfl), (Nat.le_of_ble_eq_true rfl)⟩ rfl rfl (fun v M1 z => z.elim) ?_
  rintro y M1 ⟨rfl, K1, hW1, hR⟩
  refine gx_catch hX (nm := "java/lang/IllegalStateException") [{ startPc := 0, endPc := 9, handlerPc := 12, catchType := 24 }] { startPc := 0, endPc := 9, handlerPc := 15, catchType := 15 } [] rfl (fun y hy => by
      rcases List.mem_cons.mp hy with rfl | hy
      · exact ⟨by decide, _, in3 54 rfl rfl, by decide⟩
      exact nomatch hy) (by decide) (by decide) (in2 238 rfl rfl) (nw3 10 rfl rfl) ?_
  intro qq
  refine gq_astore_n hX dL_launch_15 rfl rfl (Nat.le_of_ble_eq_true rfl) rfl ?_
  refine gq_iconst (v := nI 2) hX dL_launch_16 rfl (by decide) ?_
  exact gq_iret hX hQ dL_launch_17 rfl ⟨rfl, K1, hW1, hR⟩

set_option maxRecDepth 100000 in
set_option maxHeartbeats 4000000 in
theorem wl_members_ok {E : Ev} {b : Nat → Nat} {K : Kt} {M : Hp} (hb : Lay E 162 b) (hW : Wd E b K M) {p0 : Int32} {r : Int32} {R : Kt → Prop} {mc ms : Nat} (h1 : mc ≤ 23) (h2 : ms ≤ 3266) (h : Ct E mX4_members [.ref (b 0), .int p0] M (RsC E b (.int r) R) mc ms) : CtH E mL_members [.ref (b 0), .int p0, .ref (b 160)] M (RsC E b (.int (nI 0)) (LoR R r.toInt64)) 23 3266 := by
  refine CtH.of gmL_members (ls := [.ref (b 0), .int p0, .ref (b 160), hole]) rfl rfl (Nat.le_of_ble_eq_true rfl) ?_
  intro X hX Q hQ
  refine gq_bud (nc1 := mc) (ns1 := ms) h1 h2 ?_
  refine gq_aload_n hX dL_members_0 rfl rfl rfl ?_
  refine gq_iconst (v := nI 0) hX dL_members_1 rfl (by decide) ?_
  refine gq_aload_n hX dL_members_2 rfl rfl rfl ?_
  refine gq_iload_n hX dL_members_3 rfl rfl rfl ?_
  refine gq_callV (nc1 := 0) (ns1 := 0) hX dL_members_4 vL_31 h rfl hW.c0 rfl rfl (Nat.le_of_ble_eq_true rfl) ⟨(Nat.le_of_ble_eq_true rfl), (Nat.le_of_ble_eq_true rfl)⟩ rfl rfl ?_
  rintro v M1 ⟨rfl, K1, hW1, hR⟩
  refine gq_i2l hX dL_members_7 rfl ?_
  refine gq_last hX dL_members_8 rfl hW1.lo (vp_in_nI (by decide) (by decide)) (hb.2 160 (by decide)) rfl ?_
  have hW2 := hW1.wlo hb (vp_updL K1.2.2.2.2.2.2.1 (nI 0).toNatClampNeg r.toInt64)
  refine gq_goto (tgt := 15) hX dL_members_9 rfl ?_
  refine gq_iconst (v := nI 0) hX dL_members_15 rfl (by decide) ?_
  exact gq_iret hX hQ dL_members_16 rfl ⟨rfl, _, hW2, K1, _, hR, rfl, rfl⟩

set_option maxRecDepth 100000 in
set_option maxHeartbeats 4000000 in
theorem wl_members_1 {E : Ev} {b : Nat → Nat} {K : Kt} {M : Hp} (hb : Lay E 162 b) (hW : Wd E b K M) {p0 : Int32} {R : Kt → Prop} {mc ms : Nat} (h1 : mc ≤ 23) (h2 : ms ≤ 3266) (h : CtX E mX4_members [.ref (b 0), .int p0] M NoR (ThC E b "java/lang/IndexOutOfBoundsException" R) mc ms) : CtH E mL_members [.ref (b 0), .int p0, .ref (b 160)] M (RsC E b (.int (nI 1)) R) 23 3266 := by
  refine CtH.of gmL_members (ls := [.ref (b 0), .int p0, .ref (b 160), hole]) rfl rfl (Nat.le_of_ble_eq_true rfl) ?_
  intro X hX Q hQ
  refine gq_bud (nc1 := mc) (ns1 := ms) h1 h2 ?_
  refine gq_aload_n hX dL_members_0 rfl rfl rfl ?_
  refine gq_iconst (v := nI 0) hX dL_members_1 rfl (by decide) ?_
  refine gq_aload_n hX dL_members_2 rfl rfl rfl ?_
  refine gq_iload_n hX dL_members_3 rfl rfl rfl ?_
  refine gq_callVX (nc1 := 0) (ns1 := 0) hX dL_members_4 vL_31 h rfl hW.c0 rfl rfl (Nat.le_of_ble_eq_true rfl) ⟨(Nat.le_of_ble_eq_true rfl), (Nat.le_of_ble_eq_true rfl)⟩ rfl rfl (fun v M1 z => z.elim) ?_
  rintro y M1 ⟨rfl, K1, hW1, hR⟩
  refine gx_catch hX (nm := "java/lang/IndexOutOfBoundsException") [] { startPc := 0, endPc := 9, handlerPc := 12, catchType := 24 } [] rfl (fun y hy => nomatch hy) (by decide) (by decide) (in3 54 rfl rfl) (nw2 101 rfl rfl) ?_
  intro qq
  refine gq_astore_n hX dL_members_12 rfl rfl (Nat.le_of_ble_eq_true rfl) rfl ?_
  refine gq_iconst (v := nI 1) hX dL_members_13 rfl (by decide) ?_
  exact gq_iret hX hQ dL_members_14 rfl ⟨rfl, K1, hW1, hR⟩

set_option maxRecDepth 100000 in
set_option maxHeartbeats 4000000 in
theorem wl_arrears_ok {E : Ev} {b : Nat → Nat} {K : Kt} {M : Hp} (hb : Lay E 162 b) (hW : Wd E b K M) {p0 : Int32} {r : Int32} {R : Kt → Prop} {mc ms : Nat} (h1 : mc ≤ 23) (h2 : ms ≤ 3266) (h : Ct E mX4_arrears [.ref (b 0), .int p0] M (RsC E b (.int r) R) mc ms) : CtH E mL_arrears [.ref (b 0), .int p0, .ref (b 160)] M (RsC E b (.int (nI 0)) (LoR R r.toInt64)) 23 3266 := by
  refine CtH.of gmL_arrears (ls := [.ref (b 0), .int p0, .ref (b 160), hole]) rfl rfl (Nat.le_of_ble_eq_true rfl) ?_
  intro X hX Q hQ
  refine gq_bud (nc1 := mc) (ns1 := ms) h1 h2 ?_
  refine gq_aload_n hX dL_arrears_0 rfl rfl rfl ?_
  refine gq_iconst (v := nI 0) hX dL_arrears_1 rfl (by decide) ?_
  refine gq_aload_n hX dL_arrears_2 rfl rfl rfl ?_
  refine gq_iload_n hX dL_arrears_3 rfl rfl rfl ?_
  refine gq_callV (nc1 := 0) (ns1 := 0) hX dL_arrears_4 vL_34 h rfl hW.c0 rfl rfl (Nat.le_of_ble_eq_true rfl) ⟨(Nat.le_of_ble_eq_true rfl), (Nat.le_of_ble_eq_true rfl)⟩ rfl rfl ?_
  rintro v M1 ⟨rfl, K1, hW1, hR⟩
  refine gq_i2l hX dL_arrears_7 rfl ?_
  refine gq_last hX dL_arrears_8 rfl hW1.lo (vp_in_nI (by decide) (by decide)) (hb.2 160 (by decide)) rfl ?_
  have hW2 := hW1.wlo hb (vp_updL K1.2.2.2.2.2.2.1 (nI 0).toNatClampNeg r.toInt64)
  refine gq_goto (tgt := 15) hX dL_arrears_9 rfl ?_
  refine gq_iconst (v := nI 0) hX dL_arrears_15 rfl (by decide) ?_
  exact gq_iret hX hQ dL_arrears_16 rfl ⟨rfl, _, hW2, K1, _, hR, rfl, rfl⟩

set_option maxRecDepth 100000 in
set_option maxHeartbeats 4000000 in
theorem wl_arrears_1 {E : Ev} {b : Nat → Nat} {K : Kt} {M : Hp} (hb : Lay E 162 b) (hW : Wd E b K M) {p0 : Int32} {R : Kt → Prop} {mc ms : Nat} (h1 : mc ≤ 23) (h2 : ms ≤ 3266) (h : CtX E mX4_arrears [.ref (b 0), .int p0] M NoR (ThC E b "java/lang/IndexOutOfBoundsException" R) mc ms) : CtH E mL_arrears [.ref (b 0), .int p0, .ref (b 160)] M (RsC E b (.int (nI 1)) R) 23 3266 := by
  refine CtH.of gmL_arrears (ls := [.ref (b 0), .int p0, .ref (b 160), hole]) rfl rfl (Nat.le_of_ble_eq_true rfl) ?_
  intro X hX Q hQ
  refine gq_bud (nc1 := mc) (ns1 := ms) h1 h2 ?_
  refine gq_aload_n hX dL_arrears_0 rfl rfl rfl ?_
  refine gq_iconst (v := nI 0) hX dL_arrears_1 rfl (by decide) ?_
  refine gq_aload_n hX dL_arrears_2 rfl rfl rfl ?_
  refine gq_iload_n hX dL_arrears_3 rfl rfl rfl ?_
  refine gq_callVX (nc1 := 0) (ns1 := 0) hX dL_arrears_4 vL_34 h rfl hW.c0 rfl rfl (Nat.le_of_ble_eq_true rfl) ⟨(Nat.le_of_ble_eq_true rfl), (Nat.le_of_ble_eq_true rfl)⟩ rfl rfl (fun v M1 z => z.elim) ?_
  rintro y M1 ⟨rfl, K1, hW1, hR⟩
  refine gx_catch hX (nm := "java/lang/IndexOutOfBoundsException") [] { startPc := 0, endPc := 9, handlerPc := 12, catchType := 24 } [] rfl (fun y hy => nomatch hy) (by decide) (by decide) (in3 54 rfl rfl) (nw2 101 rfl rfl) ?_
  intro qq
  refine gq_astore_n hX dL_arrears_12 rfl rfl (Nat.le_of_ble_eq_true rfl) rfl ?_
  refine gq_iconst (v := nI 1) hX dL_arrears_13 rfl (by decide) ?_
  exact gq_iret hX hQ dL_arrears_14 rfl ⟨rfl, K1, hW1, hR⟩

set_option maxRecDepth 100000 in
set_option maxHeartbeats 4000000 in
theorem wl_isFlying_ok {E : Ev} {b : Nat → Nat} {K : Kt} {M : Hp} (hb : Lay E 162 b) (hW : Wd E b K M) {p0 : Int32} {r : Int32} {R : Kt → Prop} {mc ms : Nat} (h1 : mc ≤ 23) (h2 : ms ≤ 3266) (h : Ct E mX4_isFlying [.ref (b 0), .int p0] M (RsC E b (.int r) R) mc ms) : CtH E mL_isFlying [.ref (b 0), .int p0, .ref (b 160)] M (RsC E b (.int (nI 0)) (LoR R (if r = 0 then 0 else 1))) 23 3266 := by
  refine CtH.of gmL_isFlying (ls := [.ref (b 0), .int p0, .ref (b 160), hole]) rfl rfl (Nat.le_of_ble_eq_true rfl) ?_
  intro X hX Q hQ
  refine gq_bud (nc1 := mc) (ns1 := ms) h1 h2 ?_
  refine gq_aload_n hX dL_isFlying_0 rfl rfl rfl ?_
  refine gq_iconst (v := nI 0) hX dL_isFlying_1 rfl (by decide) ?_
  refine gq_aload_n hX dL_isFlying_2 rfl rfl rfl ?_
  refine gq_iload_n hX dL_isFlying_3 rfl rfl rfl ?_
  refine gq_callV (nc1 := 0) (ns1 := 0) hX dL_isFlying_4 vL_37 h rfl hW.c0 rfl rfl (Nat.le_of_ble_eq_true rfl) ⟨(Nat.le_of_ble_eq_true rfl), (Nat.le_of_ble_eq_true rfl)⟩ rfl rfl ?_
  rintro v M1 ⟨rfl, K1, hW1, hR⟩
  by_cases h0 : r = 0
  · refine gq_if_eqT (tgt := 14) hX dL_isFlying_7 rfl h0 ?_
    refine gq_lconst (v := 0) hX dL_isFlying_14 rfl (by decide) ?_
    refine gq_last hX dL_isFlying_15 rfl hW1.lo (vp_in_nI (by decide) (by decide)) (hb.2 160 (by decide)) rfl ?_
    have hW2 := hW1.wlo hb (vp_updL K1.2.2.2.2.2.2.1 (nI 0).toNatClampNeg 0)
    refine gq_goto (tgt := 22) hX dL_isFlying_16 rfl ?_
    refine gq_iconst (v := nI 0) hX dL_isFlying_22 rfl (by decide) ?_
    exact gq_iret hX hQ dL_isFlying_23 rfl ⟨rfl, _, hW2, K1, _, hR, rfl, by rw [if_pos h0]; rfl⟩
  · refine gq_if_eqF (tgt := 14) hX dL_isFlying_7 rfl rfl h0 ?_
    refine gq_lconst (v := 1) hX dL_isFlying_10 rfl (by decide) ?_
    refine gq_goto (tgt := 15) hX dL_isFlying_11 rfl ?_
    refine gq_last hX dL_isFlying_15 rfl hW1.lo (vp_in_nI (by decide) (by decide)) (hb.2 160 (by decide)) rfl ?_
    have hW2 := hW1.wlo hb (vp_updL K1.2.2.2.2.2.2.1 (nI 0).toNatClampNeg 1)
    refine gq_goto (tgt := 22) hX dL_isFlying_16 rfl ?_
    refine gq_iconst (v := nI 0) hX dL_isFlying_22 rfl (by decide) ?_
    exact gq_iret hX hQ dL_isFlying_23 rfl ⟨rfl, _, hW2, K1, _, hR, rfl, by rw [if_neg h0]; rfl⟩

set_option maxRecDepth 100000 in
set_option maxHeartbeats 4000000 in
theorem wl_isFlying_1 {E : Ev} {b : Nat → Nat} {K : Kt} {M : Hp} (hb : Lay E 162 b) (hW : Wd E b K M) {p0 : Int32} {R : Kt → Prop} {mc ms : Nat} (h1 : mc ≤ 23) (h2 : ms ≤ 3266) (h : CtX E mX4_isFlying [.ref (b 0), .int p0] M NoR (ThC E b "java/lang/IndexOutOfBoundsException" R) mc ms) : CtH E mL_isFlying [.ref (b 0), .int p0, .ref (b 160)] M (RsC E b (.int (nI 1)) R) 23 3266 := by
  refine CtH.of gmL_isFlying (ls := [.ref (b 0), .int p0, .ref (b 160), hole]) rfl rfl (Nat.le_of_ble_eq_true rfl) ?_
  intro X hX Q hQ
  refine gq_bud (nc1 := mc) (ns1 := ms) h1 h2 ?_
  refine gq_aload_n hX dL_isFlying_0 rfl rfl rfl ?_
  refine gq_iconst (v := nI 0) hX dL_isFlying_1 rfl (by decide) ?_
  refine gq_aload_n hX dL_isFlying_2 rfl rfl rfl ?_
  refine gq_iload_n hX dL_isFlying_3 rfl rfl rfl ?_
  refine gq_callVX (nc1 := 0) (ns1 := 0) hX dL_isFlying_4 vL_37 h rfl hW.c0 rfl rfl (Nat.le_of_ble_eq_true rfl) ⟨(Nat.le_of_ble_eq_true rfl), (Nat.le_of_ble_eq_true rfl)⟩ rfl rfl (fun v M1 z => z.elim) ?_
  rintro y M1 ⟨rfl, K1, hW1, hR⟩
  refine gx_catch hX (nm := "java/lang/IndexOutOfBoundsException") [] { startPc := 0, endPc := 16, handlerPc := 19, catchType := 24 } [] rfl (fun y hy => nomatch hy) (by decide) (by decide) (in3 54 rfl rfl) (nw2 101 rfl rfl) ?_
  intro qq
  refine gq_astore_n hX dL_isFlying_19 rfl rfl (Nat.le_of_ble_eq_true rfl) rfl ?_
  refine gq_iconst (v := nI 1) hX dL_isFlying_20 rfl (by decide) ?_
  exact gq_iret hX hQ dL_isFlying_21 rfl ⟨rfl, K1, hW1, hR⟩

set_option maxRecDepth 100000 in
set_option maxHeartbeats 4000000 in
theorem wl_tailLength_ok {E : Ev} {b : Nat → Nat} {K : Kt} {M : Hp} (hb : Lay E 162 b) (hW : Wd E b K M) {p0 : Int32} {r : Int32} {R : Kt → Prop} {mc ms : Nat} (h1 : mc ≤ 23) (h2 : ms ≤ 3266) (h : Ct E mX4_tailLength [.ref (b 0), .int p0] M (RsC E b (.int r) R) mc ms) : CtH E mL_tailLength [.ref (b 0), .int p0, .ref (b 160)] M (RsC E b (.int (nI 0)) (LoR R r.toInt64)) 23 3266 := by
  refine CtH.of gmL_tailLength (ls := [.ref (b 0), .int p0, .ref (b 160), hole]) rfl rfl (Nat.le_of_ble_eq_true rfl) ?_
  intro X hX Q hQ
  refine gq_bud (nc1 := mc) (ns1 := ms) h1 h2 ?_
  refine gq_aload_n hX dL_tailLength_0 rfl rfl rfl ?_
  refine gq_iconst (v := nI 0) hX dL_tailLength_1 rfl (by decide) ?_
  refine gq_aload_n hX dL_tailLength_2 rfl rfl rfl ?_
  refine gq_iload_n hX dL_tailLength_3 rfl rfl rfl ?_
  refine gq_callV (nc1 := 0) (ns1 := 0) hX dL_tailLength_4 vL_41 h rfl hW.c0 rfl rfl (Nat.le_of_ble_eq_true rfl) ⟨(Nat.le_of_ble_eq_true rfl), (Nat.le_of_ble_eq_true rfl)⟩ rfl rfl ?_
  rintro v M1 ⟨rfl, K1, hW1, hR⟩
  refine gq_i2l hX dL_tailLength_7 rfl ?_
  refine gq_last hX dL_tailLength_8 rfl hW1.lo (vp_in_nI (by decide) (by decide)) (hb.2 160 (by decide)) rfl ?_
  have hW2 := hW1.wlo hb (vp_updL K1.2.2.2.2.2.2.1 (nI 0).toNatClampNeg r.toInt64)
  refine gq_goto (tgt := 15) hX dL_tailLength_9 rfl ?_
  refine gq_iconst (v := nI 0) hX dL_tailLength_15 rfl (by decide) ?_
  exact gq_iret hX hQ dL_tailLength_16 rfl ⟨rfl, _, hW2, K1, _, hR, rfl, rfl⟩

set_option maxRecDepth 100000 in
set_option maxHeartbeats 4000000 in
theorem wl_tailLength_1 {E : Ev} {b : Nat → Nat} {K : Kt} {M : Hp} (hb : Lay E 162 b) (hW : Wd E b K M) {p0 : Int32} {R : Kt → Prop} {mc ms : Nat} (h1 : mc ≤ 23) (h2 : ms ≤ 3266) (h : CtX E mX4_tailLength [.ref (b 0), .int p0] M NoR (ThC E b "java/lang/IndexOutOfBoundsException" R) mc ms) : CtH E mL_tailLength [.ref (b 0), .int p0, .ref (b 160)] M (RsC E b (.int (nI 1)) R) 23 3266 := by
  refine CtH.of gmL_tailLength (ls := [.ref (b 0), .int p0, .ref (b 160), hole]) rfl rfl (Nat.le_of_ble_eq_true rfl) ?_
  intro X hX Q hQ
  refine gq_bud (nc1 := mc) (ns1 := ms) h1 h2 ?_
  refine gq_aload_n hX dL_tailLength_0 rfl rfl rfl ?_
  refine gq_iconst (v := nI 0) hX dL_tailLength_1 rfl (by decide) ?_
  refine gq_aload_n hX dL_tailLength_2 rfl rfl rfl ?_
  refine gq_iload_n hX dL_tailLength_3 rfl rfl rfl ?_
  refine gq_callVX (nc1 := 0) (ns1 := 0) hX dL_tailLength_4 vL_41 h rfl hW.c0 rfl rfl (Nat.le_of_ble_eq_true rfl) ⟨(Nat.le_of_ble_eq_true rfl), (Nat.le_of_ble_eq_true rfl)⟩ rfl rfl (fun v M1 z => z.elim) ?_
  rintro y M1 ⟨rfl, K1, hW1, hR⟩
  refine gx_catch hX (nm := "java/lang/IndexOutOfBoundsException") [] { startPc := 0, endPc := 9, handlerPc := 12, catchType := 24 } [] rfl (fun y hy => nomatch hy) (by decide) (by decide) (in3 54 rfl rfl) (nw2 101 rfl rfl) ?_
  intro qq
  refine gq_astore_n hX dL_tailLength_12 rfl rfl (Nat.le_of_ble_eq_true rfl) rfl ?_
  refine gq_iconst (v := nI 1) hX dL_tailLength_13 rfl (by decide) ?_
  exact gq_iret hX hQ dL_tailLength_14 rfl ⟨rfl, K1, hW1, hR⟩

set_option maxRecDepth 100000 in
set_option maxHeartbeats 4000000 in
theorem wl_tailsOf_ok {E : Ev} {b : Nat → Nat} {K : Kt} {M : Hp} (hb : Lay E 162 b) (hW : Wd E b K M) {p0 : Int32} {r : Int32} {R : Kt → Prop} {mc ms : Nat} (h1 : mc ≤ 23) (h2 : ms ≤ 3266) (h : Ct E mX4_tailsOf [.ref (b 0), .int p0] M (RsC E b (.int r) R) mc ms) : CtH E mL_tailsOf [.ref (b 0), .int p0, .ref (b 160)] M (RsC E b (.int (nI 0)) (LoR R r.toInt64)) 23 3266 := by
  refine CtH.of gmL_tailsOf (ls := [.ref (b 0), .int p0, .ref (b 160), hole]) rfl rfl (Nat.le_of_ble_eq_true rfl) ?_
  intro X hX Q hQ
  refine gq_bud (nc1 := mc) (ns1 := ms) h1 h2 ?_
  refine gq_aload_n hX dL_tailsOf_0 rfl rfl rfl ?_
  refine gq_iconst (v := nI 0) hX dL_tailsOf_1 rfl (by decide) ?_
  refine gq_aload_n hX dL_tailsOf_2 rfl rfl rfl ?_
  refine gq_iload_n hX dL_tailsOf_3 rfl rfl rfl ?_
  refine gq_callV (nc1 := 0) (ns1 := 0) hX dL_tailsOf_4 vL_44 h rfl hW.c0 rfl rfl (Nat.le_of_ble_eq_true rfl) ⟨(Nat.le_of_ble_eq_true rfl), (Nat.le_of_ble_eq_true rfl)⟩ rfl rfl ?_
  rintro v M1 ⟨rfl, K1, hW1, hR⟩
  refine gq_i2l hX dL_tailsOf_7 rfl ?_
  refine gq_last hX dL_tailsOf_8 rfl hW1.lo (vp_in_nI (by decide) (by decide)) (hb.2 160 (by decide)) rfl ?_
  have hW2 := hW1.wlo hb (vp_updL K1.2.2.2.2.2.2.1 (nI 0).toNatClampNeg r.toInt64)
  refine gq_goto (tgt := 15) hX dL_tailsOf_9 rfl ?_
  refine gq_iconst (v := nI 0) hX dL_tailsOf_15 rfl (by decide) ?_
  exact gq_iret hX hQ dL_tailsOf_16 rfl ⟨rfl, _, hW2, K1, _, hR, rfl, rfl⟩

set_option maxRecDepth 100000 in
set_option maxHeartbeats 4000000 in
theorem wl_tailsOf_1 {E : Ev} {b : Nat → Nat} {K : Kt} {M : Hp} (hb : Lay E 162 b) (hW : Wd E b K M) {p0 : Int32} {R : Kt → Prop} {mc ms : Nat} (h1 : mc ≤ 23) (h2 : ms ≤ 3266) (h : CtX E mX4_tailsOf [.ref (b 0), .int p0] M NoR (ThC E b "java/lang/IndexOutOfBoundsException" R) mc ms) : CtH E mL_tailsOf [.ref (b 0), .int p0, .ref (b 160)] M (RsC E b (.int (nI 1)) R) 23 3266 := by
  refine CtH.of gmL_tailsOf (ls := [.ref (b 0), .int p0, .ref (b 160), hole]) rfl rfl (Nat.le_of_ble_eq_true rfl) ?_
  intro X hX Q hQ
  refine gq_bud (nc1 := mc) (ns1 := ms) h1 h2 ?_
  refine gq_aload_n hX dL_tailsOf_0 rfl rfl rfl ?_
  refine gq_iconst (v := nI 0) hX dL_tailsOf_1 rfl (by decide) ?_
  refine gq_aload_n hX dL_tailsOf_2 rfl rfl rfl ?_
  refine gq_iload_n hX dL_tailsOf_3 rfl rfl rfl ?_
  refine gq_callVX (nc1 := 0) (ns1 := 0) hX dL_tailsOf_4 vL_44 h rfl hW.c0 rfl rfl (Nat.le_of_ble_eq_true rfl) ⟨(Nat.le_of_ble_eq_true rfl), (Nat.le_of_ble_eq_true rfl)⟩ rfl rfl (fun v M1 z => z.elim) ?_
  rintro y M1 ⟨rfl, K1, hW1, hR⟩
  refine gx_catch hX (nm := "java/lang/IndexOutOfBoundsException") [] { startPc := 0, endPc := 9, handlerPc := 12, catchType := 24 } [] rfl (fun y hy => nomatch hy) (by decide) (by decide) (in3 54 rfl rfl) (nw2 101 rfl rfl) ?_
  intro qq
  refine gq_astore_n hX dL_tailsOf_12 rfl rfl (Nat.le_of_ble_eq_true rfl) rfl ?_
  refine gq_iconst (v := nI 1) hX dL_tailsOf_13 rfl (by decide) ?_
  exact gq_iret hX hQ dL_tailsOf_14 rfl ⟨rfl, K1, hW1, hR⟩

set_option maxRecDepth 100000 in
set_option maxHeartbeats 4000000 in
theorem wl_length_ok {E : Ev} {b : Nat → Nat} {K : Kt} {M : Hp} (hb : Lay E 162 b) (hW : Wd E b K M) {p0 : Int32} {r : Int32} {R : Kt → Prop} {mc ms : Nat} (h1 : mc ≤ 23) (h2 : ms ≤ 3266) (h : Ct E mX4_length [.ref (b 0), .int p0] M (RsC E b (.int r) R) mc ms) : CtH E mL_length [.ref (b 0), .int p0, .ref (b 160)] M (RsC E b (.int (nI 0)) (LoR R r.toInt64)) 23 3266 := by
  refine CtH.of gmL_length (ls := [.ref (b 0), .int p0, .ref (b 160), hole]) rfl rfl (Nat.le_of_ble_eq_true rfl) ?_
  intro X hX Q hQ
  refine gq_bud (nc1 := mc) (ns1 := ms) h1 h2 ?_
  refine gq_aload_n hX dL_length_0 rfl rfl rfl ?_
  refine gq_iconst (v := nI 0) hX dL_length_1 rfl (by decide) ?_
  refine gq_aload_n hX dL_length_2 rfl rfl rfl ?_
  refine gq_iload_n hX dL_length_3 rfl rfl rfl ?_
  refine gq_callV (nc1 := 0) (ns1 := 0) hX dL_length_4 vL_47 h rfl hW.c0 rfl rfl (Nat.le_of_ble_eq_true rfl) ⟨(Nat.le_of_ble_eq_true rfl), (Nat.le_of_ble_eq_true rfl)⟩ rfl rfl ?_
  rintro v M1 ⟨rfl, K1, hW1, hR⟩
  refine gq_i2l hX dL_length_7 rfl ?_
  refine gq_last hX dL_length_8 rfl hW1.lo (vp_in_nI (by decide) (by decide)) (hb.2 160 (by decide)) rfl ?_
  have hW2 := hW1.wlo hb (vp_updL K1.2.2.2.2.2.2.1 (nI 0).toNatClampNeg r.toInt64)
  refine gq_goto (tgt := 15) hX dL_length_9 rfl ?_
  refine gq_iconst (v := nI 0) hX dL_length_15 rfl (by decide) ?_
  exact gq_iret hX hQ dL_length_16 rfl ⟨rfl, _, hW2, K1, _, hR, rfl, rfl⟩

set_option maxRecDepth 100000 in
set_option maxHeartbeats 4000000 in
theorem wl_length_1 {E : Ev} {b : Nat → Nat} {K : Kt} {M : Hp} (hb : Lay E 162 b) (hW : Wd E b K M) {p0 : Int32} {R : Kt → Prop} {mc ms : Nat} (h1 : mc ≤ 23) (h2 : ms ≤ 3266) (h : CtX E mX4_length [.ref (b 0), .int p0] M NoR (ThC E b "java/lang/IndexOutOfBoundsException" R) mc ms) : CtH E mL_length [.ref (b 0), .int p0, .ref (b 160)] M (RsC E b (.int (nI 1)) R) 23 3266 := by
  refine CtH.of gmL_length (ls := [.ref (b 0), .int p0, .ref (b 160), hole]) rfl rfl (Nat.le_of_ble_eq_true rfl) ?_
  intro X hX Q hQ
  refine gq_bud (nc1 := mc) (ns1 := ms) h1 h2 ?_
  refine gq_aload_n hX dL_length_0 rfl rfl rfl ?_
  refine gq_iconst (v := nI 0) hX dL_length_1 rfl (by decide) ?_
  refine gq_aload_n hX dL_length_2 rfl rfl rfl ?_
  refine gq_iload_n hX dL_length_3 rfl rfl rfl ?_
  refine gq_callVX (nc1 := 0) (ns1 := 0) hX dL_length_4 vL_47 h rfl hW.c0 rfl rfl (Nat.le_of_ble_eq_true rfl) ⟨(Nat.le_of_ble_eq_true rfl), (Nat.le_of_ble_eq_true rfl)⟩ rfl rfl (fun v M1 z => z.elim) ?_
  rintro y M1 ⟨rfl, K1, hW1, hR⟩
  refine gx_catch hX (nm := "java/lang/IndexOutOfBoundsException") [] { startPc := 0, endPc := 9, handlerPc := 12, catchType := 24 } [] rfl (fun y hy => nomatch hy) (by decide) (by decide) (in3 54 rfl rfl) (nw2 101 rfl rfl) ?_
  intro qq
  refine gq_astore_n hX dL_length_12 rfl rfl (Nat.le_of_ble_eq_true rfl) rfl ?_
  refine gq_iconst (v := nI 1) hX dL_length_13 rfl (by decide) ?_
  exact gq_iret hX hQ dL_length_14 rfl ⟨rfl, K1, hW1, hR⟩

set_option maxRecDepth 100000 in
set_option maxHeartbeats 4000000 in
theorem wl_isFree_ok {E : Ev} {b : Nat → Nat} {K : Kt} {M : Hp} (hb : Lay E 162 b) (hW : Wd E b K M) {p0 : Int32} {r : Int32} {R : Kt → Prop} {mc ms : Nat} (h1 : mc ≤ 23) (h2 : ms ≤ 3266) (h : Ct E mX4_isFree [.ref (b 0), .int p0] M (RsC E b (.int r) R) mc ms) : CtH E mL_isFree [.ref (b 0), .int p0, .ref (b 160)] M (RsC E b (.int (nI 0)) (LoR R (if r = 0 then 0 else 1))) 23 3266 := by
  refine CtH.of gmL_isFree (ls := [.ref (b 0), .int p0, .ref (b 160), hole]) rfl rfl (Nat.le_of_ble_eq_true rfl) ?_
  intro X hX Q hQ
  refine gq_bud (nc1 := mc) (ns1 := ms) h1 h2 ?_
  refine gq_aload_n hX dL_isFree_0 rfl rfl rfl ?_
  refine gq_iconst (v := nI 0) hX dL_isFree_1 rfl (by decide) ?_
  refine gq_aload_n hX dL_isFree_2 rfl rfl rfl ?_
  refine gq_iload_n hX dL_isFree_3 rfl rfl rfl ?_
  refine gq_callV (nc1 := 0) (ns1 := 0) hX dL_isFree_4 vL_50 h rfl hW.c0 rfl rfl (Nat.le_of_ble_eq_true rfl) ⟨(Nat.le_of_ble_eq_true rfl), (Nat.le_of_ble_eq_true rfl)⟩ rfl rfl ?_
  rintro v M1 ⟨rfl, K1, hW1, hR⟩
  by_cases h0 : r = 0
  · refine gq_if_eqT (tgt := 14) hX dL_isFree_7 rfl h0 ?_
    refine gq_lconst (v := 0) hX dL_isFree_14 rfl (by decide) ?_
    refine gq_last hX dL_isFree_15 rfl hW1.lo (vp_in_nI (by decide) (by decide)) (hb.2 160 (by decide)) rfl ?_
    have hW2 := hW1.wlo hb (vp_updL K1.2.2.2.2.2.2.1 (nI 0).toNatClampNeg 0)
    refine gq_goto (tgt := 22) hX dL_isFree_16 rfl ?_
    refine gq_iconst (v := nI 0) hX dL_isFree_22 rfl (by decide) ?_
    exact gq_iret hX hQ dL_isFree_23 rfl ⟨rfl, _, hW2, K1, _, hR, rfl, by rw [if_pos h0]; rfl⟩
  · refine gq_if_eqF (tgt := 14) hX dL_isFree_7 rfl rfl h0 ?_
    refine gq_lconst (v := 1) hX dL_isFree_10 rfl (by decide) ?_
    refine gq_goto (tgt := 15) hX dL_isFree_11 rfl ?_
    refine gq_last hX dL_isFree_15 rfl hW1.lo (vp_in_nI (by decide) (by decide)) (hb.2 160 (by decide)) rfl ?_
    have hW2 := hW1.wlo hb (vp_updL K1.2.2.2.2.2.2.1 (nI 0).toNatClampNeg 1)
    refine gq_goto (tgt := 22) hX dL_isFree_16 rfl ?_
    refine gq_iconst (v := nI 0) hX dL_isFree_22 rfl (by decide) ?_
    exact gq_iret hX hQ dL_isFree_23 rfl ⟨rfl, _, hW2, K1, _, hR, rfl, by rw [if_neg h0]; rfl⟩

set_option maxRecDepth 100000 in
set_option maxHeartbeats 4000000 in
theorem wl_isFree_1 {E : Ev} {b : Nat → Nat} {K : Kt} {M : Hp} (hb : Lay E 162 b) (hW : Wd E b K M) {p0 : Int32} {R : Kt → Prop} {mc ms : Nat} (h1 : mc ≤ 23) (h2 : ms ≤ 3266) (h : CtX E mX4_isFree [.ref (b 0), .int p0] M NoR (ThC E b "java/lang/IndexOutOfBoundsException" R) mc ms) : CtH E mL_isFree [.ref (b 0), .int p0, .ref (b 160)] M (RsC E b (.int (nI 1)) R) 23 3266 := by
  refine CtH.of gmL_isFree (ls := [.ref (b 0), .int p0, .ref (b 160), hole]) rfl rfl (Nat.le_of_ble_eq_true rfl) ?_
  intro X hX Q hQ
  refine gq_bud (nc1 := mc) (ns1 := ms) h1 h2 ?_
  refine gq_aload_n hX dL_isFree_0 rfl rfl rfl ?_
  refine gq_iconst (v := nI 0) hX dL_isFree_1 rfl (by decide) ?_
  refine gq_aload_n hX dL_isFree_2 rfl rfl rfl ?_
  refine gq_iload_n hX dL_isFree_3 rfl rfl rfl ?_
  refine gq_callVX (nc1 := 0) (ns1 := 0) hX dL_isFree_4 vL_50 h rfl hW.c0 rfl rfl (Nat.le_of_ble_eq_true rfl) ⟨(Nat.le_of_ble_eq_true rfl), (Nat.le_of_ble_eq_true rfl)⟩ rfl rfl (fun v M1 z => z.elim) ?_
  rintro y M1 ⟨rfl, K1, hW1, hR⟩
  refine gx_catch hX (nm := "java/lang/IndexOutOfBoundsException") [] { startPc := 0, endPc := 16, handlerPc := 19, catchType := 24 } [] rfl (fun y hy => nomatch hy) (by decide) (by decide) (in3 54 rfl rfl) (nw2 101 rfl rfl) ?_
  intro qq
  refine gq_astore_n hX dL_isFree_19 rfl rfl (Nat.le_of_ble_eq_true rfl) rfl ?_
  refine gq_iconst (v := nI 1) hX dL_isFree_20 rfl (by decide) ?_
  exact gq_iret hX hQ dL_isFree_21 rfl ⟨rfl, K1, hW1, hR⟩

set_option maxRecDepth 100000 in
set_option maxHeartbeats 4000000 in
theorem wl_renterOf_ok {E : Ev} {b : Nat → Nat} {K : Kt} {M : Hp} (hb : Lay E 162 b) (hW : Wd E b K M) {p0 : Int32} {r : Int32} {R : Kt → Prop} {mc ms : Nat} (h1 : mc ≤ 23) (h2 : ms ≤ 3266) (h : Ct E mX4_renterOf [.ref (b 0), .int p0] M (RsC E b (.int r) R) mc ms) : CtH E mL_renterOf [.ref (b 0), .int p0, .ref (b 160)] M (RsC E b (.int (nI 0)) (LoR R r.toInt64)) 23 3266 := by
  refine CtH.of gmL_renterOf (ls := [.ref (b 0), .int p0, .ref (b 160), hole]) rfl rfl (Nat.le_of_ble_eq_true rfl) ?_
  intro X hX Q hQ
  refine gq_bud (nc1 := mc) (ns1 := ms) h1 h2 ?_
  refine gq_aload_n hX dL_renterOf_0 rfl rfl rfl ?_
  refine gq_iconst (v := nI 0) hX dL_renterOf_1 rfl (by decide) ?_
  refine gq_aload_n hX dL_renterOf_2 rfl rfl rfl ?_
  refine gq_iload_n hX dL_renterOf_3 rfl rfl rfl ?_
  refine gq_callV (nc1 := 0) (ns1 := 0) hX dL_renterOf_4 vL_53 h rfl hW.c0 rfl rfl (Nat.le_of_ble_eq_true rfl) ⟨(Nat.le_of_ble_eq_true rfl), (Nat.le_of_ble_eq_true rfl)⟩ rfl rfl ?_
  rintro v M1 ⟨rfl, K1, hW1, hR⟩
  refine gq_i2l hX dL_renterOf_7 rfl ?_
  refine gq_last hX dL_renterOf_8 rfl hW1.lo (vp_in_nI (by decide) (by decide)) (hb.2 160 (by decide)) rfl ?_
  have hW2 := hW1.wlo hb (vp_updL K1.2.2.2.2.2.2.1 (nI 0).toNatClampNeg r.toInt64)
  refine gq_goto (tgt := 18) hX dL_renterOf_9 rfl ?_
  refine gq_iconst (v := nI 0) hX dL_renterOf_18 rfl (by decide) ?_
  exact gq_iret hX hQ dL_renterOf_19 rfl ⟨rfl, _, hW2, K1, _, hR, rfl, rfl⟩

set_option maxRecDepth 100000 in
set_option maxHeartbeats 4000000 in
theorem wl_renterOf_1 {E : Ev} {b : Nat → Nat} {K : Kt} {M : Hp} (hb : Lay E 162 b) (hW : Wd E b K M) {p0 : Int32} {R : Kt → Prop} {mc ms : Nat} (h1 : mc ≤ 23) (h2 : ms ≤ 3266) (h : CtX E mX4_renterOf [.ref (b 0), .int p0] M NoR (ThC E b "java/lang/IndexOutOfBoundsException" R) mc ms) : CtH E mL_renterOf [.ref (b 0), .int p0, .ref (b 160)] M (RsC E b (.int (nI 1)) R) 23 3266 := by
  refine CtH.of gmL_renterOf (ls := [.ref (b 0), .int p0, .ref (b 160), hole]) rfl rfl (Nat.le_of_ble_eq_true rfl) ?_
  intro X hX Q hQ
  refine gq_bud (nc1 := mc) (ns1 := ms) h1 h2 ?_
  refine gq_aload_n hX dL_renterOf_0 rfl rfl rfl ?_
  refine gq_iconst (v := nI 0) hX dL_renterOf_1 rfl (by decide) ?_
  refine gq_aload_n hX dL_renterOf_2 rfl rfl rfl ?_
  refine gq_iload_n hX dL_renterOf_3 rfl rfl rfl ?_
  refine gq_callVX (nc1 := 0) (ns1 := 0) hX dL_renterOf_4 vL_53 h rfl hW.c0 rfl rfl (Nat.le_of_ble_eq_true rfl) ⟨(Nat.le_of_ble_eq_true rfl), (Nat.le_of_ble_eq_true rfl)⟩ rfl rfl (fun v M1 z => z.elim) ?_
  rintro y M1 ⟨rfl, K1, hW1, hR⟩
  refine gx_catch hX (nm := "java/lang/IndexOutOfBoundsException") [] { startPc := 0, endPc := 9, handlerPc := 12, catchType := 24 } [{ startPc := 0, endPc := 9, handlerPc := 15, catchType := 56 }] rfl (fun y hy => nomatch hy) (by decide) (by decide) (in3 54 rfl rfl) (nw2 101 rfl rfl) ?_
  intro qq
  refine gq_astore_n hX dL_renterOf_12 rfl rfl (Nat.le_of_ble_eq_true rfl) rfl ?_
  refine gq_iconst (v := nI 1) hX dL_renterOf_13 rfl (by decide) ?_
  exact gq_iret hX hQ dL_renterOf_14 rfl ⟨rfl, K1, hW1, hR⟩

set_option maxRecDepth 100000 in
set_option maxHeartbeats 4000000 in
theorem wl_renterOf_2 {E : Ev} {b : Nat → Nat} {K : Kt} {M : Hp} (hb : Lay E 162 b) (hW : Wd E b K M) {p0 : Int32} {R : Kt → Prop} {mc ms : Nat} (h1 : mc ≤ 23) (h2 : ms ≤ 3266) (h : CtX E mX4_renterOf [.ref (b 0), .int p0] M NoR (ThC E b "java/util/NoSuchElementException" R) mc ms) : CtH E mL_renterOf [.ref (b 0), .int p0, .ref (b 160)] M (RsC E b (.int (nI 2)) R) 23 3266 := by
  refine CtH.of gmL_renterOf (ls := [.ref (b 0), .int p0, .ref (b 160), hole]) rfl rfl (Nat.le_of_ble_eq_true rfl) ?_
  intro X hX Q hQ
  refine gq_bud (nc1 := mc) (ns1 := ms) h1 h2 ?_
  refine gq_aload_n hX dL_renterOf_0 rfl rfl rfl ?_
  refine gq_iconst (v := nI 0) hX dL_renterOf_1 rfl (by decide) ?_
  refine gq_aload_n hX dL_renterOf_2 rfl rfl rfl ?_
  refine gq_iload_n hX dL_renterOf_3 rfl rfl rfl ?_
  refine gq_callVX (nc1 := 0) (ns1 := 0) hX dL_renterOf_4 vL_53 h rfl hW.c0 rfl rfl (Nat.le_of_ble_eq_true rfl) ⟨(Nat.le_of_ble_eq_true rfl), (Nat.le_of_ble_eq_true rfl)⟩ rfl rfl (fun v M1 z => z.elim) ?_
  rintro y M1 ⟨rfl, K1, hW1, hR⟩
  refine gx_catch hX (nm := "java/util/NoSuchElementException") [{ startPc := 0, endPc := 9, handlerPc := 12, catchType := 24 }] { startPc := 0, endPc := 9, handlerPc := 15, catchType := 56 } [] rfl (fun y hy => by
      rcases List.mem_cons.mp hy with rfl | hy
      · exact ⟨by decide, _, in3 54 rfl rfl, by decide⟩
      exact nomatch hy) (by decide) (by decide) (in3 187 rfl rfl) (nw3 194 rfl rfl) ?_
  intro qq
  refine gq_astore_n hX dL_renterOf_15 rfl rfl (Nat.le_of_ble_eq_true rfl) rfl ?_
  refine gq_iconst (v := nI 2) hX dL_renterOf_16 rfl (by decide) ?_
  exact gq_iret hX hQ dL_renterOf_17 rfl ⟨rfl, K1, hW1, hR⟩

set_option maxRecDepth 100000 in
set_option maxHeartbeats 4000000 in
theorem wl_shortestFreeTail_ok {E : Ev} {b : Nat → Nat} {K : Kt} {M : Hp} (hb : Lay E 162 b) (hW : Wd E b K M) {r : Int32} {R : Kt → Prop} {mc ms : Nat} (h1 : mc ≤ 23) (h2 : ms ≤ 3266) (h : Ct E mX4_shortestFreeTail [.ref (b 0)] M (RsC E b (.int r) R) mc ms) : CtH E mL_shortestFreeTail [.ref (b 0), .ref (b 160)] M (RsC E b (.int (nI 0)) (LoR R r.toInt64)) 23 3266 := by
  refine CtH.of gmL_shortestFreeTail (ls := [.ref (b 0), .ref (b 160), hole]) rfl rfl (Nat.le_of_ble_eq_true rfl) ?_
  intro X hX Q hQ
  refine gq_bud (nc1 := mc) (ns1 := ms) h1 h2 ?_
  refine gq_aload_n hX dL_shortestFreeTail_0 rfl rfl rfl ?_
  refine gq_iconst (v := nI 0) hX dL_shortestFreeTail_1 rfl (by decide) ?_
  refine gq_aload_n hX dL_shortestFreeTail_2 rfl rfl rfl ?_
  refine gq_callV (nc1 := 0) (ns1 := 0) hX dL_shortestFreeTail_3 vL_58 h rfl hW.c0 rfl rfl (Nat.le_of_ble_eq_true rfl) ⟨(Nat.le_of_ble_eq_true rfl), (Nat.le_of_ble_eq_true rfl)⟩ rfl rfl ?_
  rintro v M1 ⟨rfl, K1, hW1, hR⟩
  refine gq_i2l hX dL_shortestFreeTail_6 rfl ?_
  refine gq_last hX dL_shortestFreeTail_7 rfl hW1.lo (vp_in_nI (by decide) (by decide)) (hb.2 160 (by decide)) rfl ?_
  have hW2 := hW1.wlo hb (vp_updL K1.2.2.2.2.2.2.1 (nI 0).toNatClampNeg r.toInt64)
  refine gq_goto (tgt := 14) hX dL_shortestFreeTail_8 rfl ?_
  refine gq_iconst (v := nI 0) hX dL_shortestFreeTail_14 rfl (by decide) ?_
  exact gq_iret hX hQ dL_shortestFreeTail_15 rfl ⟨rfl, _, hW2, K1, _, hR, rfl, rfl⟩

set_option maxRecDepth 100000 in
set_option maxHeartbeats 4000000 in
theorem wl_shortestFreeTail_1 {E : Ev} {b : Nat → Nat} {K : Kt} {M : Hp} (hb : Lay E 162 b) (hW : Wd E b K M) {R : Kt → Prop} {mc ms : Nat} (h1 : mc ≤ 23) (h2 : ms ≤ 3266) (h : CtX E mX4_shortestFreeTail [.ref (b 0)] M NoR (ThC E b "java/util/NoSuchElementException" R) mc ms) : CtH E mL_shortestFreeTail [.ref (b 0), .ref (b 160)] M (RsC E b (.int (nI 1)) R) 23 3266 := by
  refine CtH.of gmL_shortestFreeTail (ls := [.ref (b 0), .ref (b 160), hole]) rfl rfl (Nat.le_of_ble_eq_true rfl) ?_
  intro X hX Q hQ
  refine gq_bud (nc1 := mc) (ns1 := ms) h1 h2 ?_
  refine gq_aload_n hX dL_shortestFreeTail_0 rfl rfl rfl ?_
  refine gq_iconst (v := nI 0) hX dL_shortestFreeTail_1 rfl (by decide) ?_
  refine gq_aload_n hX dL_shortestFreeTail_2 rfl rfl rfl ?_
  refine gq_callVX (nc1 := 0) (ns1 := 0) hX dL_shortestFreeTail_3 vL_58 h rfl hW.c0 rfl rfl (Nat.le_of_ble_eq_true rfl) ⟨(Nat.le_of_ble_eq_true rfl), (Nat.le_of_ble_eq_true rfl)⟩ rfl rfl (fun v M1 z => z.elim) ?_
  rintro y M1 ⟨rfl, K1, hW1, hR⟩
  refine gx_catch hX (nm := "java/util/NoSuchElementException") [] { startPc := 0, endPc := 8, handlerPc := 11, catchType := 56 } [] rfl (fun y hy => nomatch hy) (by decide) (by decide) (in3 187 rfl rfl) (nw3 194 rfl rfl) ?_
  intro qq
  refine gq_astore_n hX dL_shortestFreeTail_11 rfl rfl (Nat.le_of_ble_eq_true rfl) rfl ?_
  refine gq_iconst (v := nI 1) hX dL_shortestFreeTail_12 rfl (by decide) ?_
  exact gq_iret hX hQ dL_shortestFreeTail_13 rfl ⟨rfl, K1, hW1, hR⟩

set_option maxRecDepth 100000 in
set_option maxHeartbeats 4000000 in
theorem wl_moveToRent_ok {E : Ev} {b : Nat → Nat} {K : Kt} {M : Hp} (hb : Lay E 162 b) (hW : Wd E b K M) {p0 : Int32} {p1 : Int32} {r : Int32} {R : Kt → Prop} {mc ms : Nat} (h1 : mc ≤ 23) (h2 : ms ≤ 3266) (h : Ct E mX4_moveToRent [.ref (b 0), .int p0, .int p1] M (RsC E b (.int r) R) mc ms) : CtH E mL_moveToRent [.ref (b 0), .int p0, .int p1, .ref (b 160)] M (RsC E b (.int (nI 0)) (LoR R r.toInt64)) 23 3266 := by
  refine CtH.of gmL_moveToRent (ls := [.ref (b 0), .int p0, .int p1, .ref (b 160), hole]) rfl rfl (Nat.le_of_ble_eq_true rfl) ?_
  intro X hX Q hQ
  refine gq_bud (nc1 := mc) (ns1 := ms) h1 h2 ?_
  refine gq_aload_n hX dL_moveToRent_0 rfl rfl rfl ?_
  refine gq_iconst (v := nI 0) hX dL_moveToRent_1 rfl (by decide) ?_
  refine gq_aload_n hX dL_moveToRent_2 rfl rfl rfl ?_
  refine gq_iload_n hX dL_moveToRent_3 rfl rfl rfl ?_
  refine gq_iload_n hX dL_moveToRent_4 rfl rfl rfl ?_
  refine gq_callV (nc1 := 0) (ns1 := 0) hX dL_moveToRent_5 vL_62 h rfl hW.c0 rfl rfl (Nat.le_of_ble_eq_true rfl) ⟨(Nat.le_of_ble_eq_true rfl), (Nat.le_of_ble_eq_true rfl)⟩ rfl rfl ?_
  rintro v M1 ⟨rfl, K1, hW1, hR⟩
  refine gq_i2l hX dL_moveToRent_8 rfl ?_
  refine gq_last hX dL_moveToRent_9 rfl hW1.lo (vp_in_nI (by decide) (by decide)) (hb.2 160 (by decide)) rfl ?_
  have hW2 := hW1.wlo hb (vp_updL K1.2.2.2.2.2.2.1 (nI 0).toNatClampNeg r.toInt64)
  refine gq_goto (tgt := 21) hX dL_moveToRent_10 rfl ?_
  refine gq_iconst (v := nI 0) hX dL_moveToRent_21 rfl (by decide) ?_
  exact gq_iret hX hQ dL_moveToRent_22 rfl ⟨rfl, _, hW2, K1, _, hR, rfl, rfl⟩

set_option maxRecDepth 100000 in
set_option maxHeartbeats 4000000 in
theorem wl_moveToRent_1 {E : Ev} {b : Nat → Nat} {K : Kt} {M : Hp} (hb : Lay E 162 b) (hW : Wd E b K M) {p0 : Int32} {p1 : Int32} {R : Kt → Prop} {mc ms : Nat} (h1 : mc ≤ 23) (h2 : ms ≤ 3266) (h : CtX E mX4_moveToRent [.ref (b 0), .int p0, .int p1] M NoR (ThC E b "java/lang/IndexOutOfBoundsException" R) mc ms) : CtH E mL_moveToRent [.ref (b 0), .int p0, .int p1, .ref (b 160)] M (RsC E b (.int (nI 1)) R) 23 3266 := by
  refine CtH.of gmL_moveToRent (ls := [.ref (b 0), .int p0, .int p1, .ref (b 160), hole]) rfl rfl (Nat.le_of_ble_eq_true rfl) ?_
  intro X hX Q hQ
  refine gq_bud (nc1 := mc) (ns1 := ms) h1 h2 ?_
  refine gq_aload_n hX dL_moveToRent_0 rfl rfl rfl ?_
  refine gq_iconst (v := nI 0) hX dL_moveToRent_1 rfl (by decide) ?_
  refine gq_aload_n hX dL_moveToRent_2 rfl rfl rfl ?_
  refine gq_iload_n hX dL_moveToRent_3 rfl rfl rfl ?_
  refine gq_iload_n hX dL_moveToRent_4 rfl rfl rfl ?_
  refine gq_callVX (nc1 := 0) (ns1 := 0) hX dL_moveToRent_5 vL_62 h rfl hW.c0 rfl rfl (Nat.le_of_ble_eq_true rfl) ⟨(Nat.le_of_ble_eq_true rfl), (Nat.le_of_ble_eq_true rfl)⟩ rfl rfl (fun v M1 z => z.elim) ?_
  rintro y M1 ⟨rfl, K1, hW1, hR⟩
  refine gx_catch hX (nm := "java/lang/IndexOutOfBoundsException") [] { startPc := 0, endPc := 10, handlerPc := 13, catchType := 24 } [{ startPc := 0, endPc := 10, handlerPc := 17, catchType := 15 }] rfl (fun y hy => nomatch hy) (by decide) (by decide) (in3 54 rfl rfl) (nw2 101 rfl rfl) ?_
  intro qq
  refine gq_astore hX dL_moveToRent_13 rfl (Nat.le_of_ble_eq_true rfl) rfl ?_
  refine gq_iconst (v := nI 1) hX dL_moveToRent_15 rfl (by decide) ?_
  exact gq_iret hX hQ dL_moveToRent_16 rfl ⟨rfl, K1, hW1, hR⟩

set_option maxRecDepth 100000 in
set_option maxHeartbeats 4000000 in
theorem wl_moveToRent_2 {E : Ev} {b : Nat → Nat} {K : Kt} {M : Hp} (hb : Lay E 162 b) (hW : Wd E b K M) {p0 : Int32} {p1 : Int32} {R : Kt → Prop} {mc ms : Nat} (h1 : mc ≤ 23) (h2 : ms ≤ 3266) (h : CtX E mX4_moveToRent [.ref (b 0), .int p0, .int p1] M NoR (ThC E b "java/lang/IllegalStateException" R) mc ms) : CtH E mL_moveToRent [.ref (b 0), .int p0, .int p1, .ref (b 160)] M (RsC E b (.int (nI 2)) R) 23 3266 := by
  refine CtH.of gmL_moveToRent (ls := [.ref (b 0), .int p0, .int p1, .ref (b 160), hole]) rfl rfl (Nat.le_of_ble_eq_true rfl) ?_
  intro X hX Q hQ
  refine gq_bud (nc1 := mc) (ns1 := ms) h1 h2 ?_
  refine gq_aload_n hX dL_moveToRent_0 rfl rfl rfl ?_
  refine gq_iconst (v := nI 0) hX dL_moveToRent_1 rfl (by decide) ?_
  refine gq_aload_n hX dL_moveToRent_2 rfl rfl rfl ?_
  refine gq_iload_n hX dL_moveToRent_3 rfl rfl rfl ?_
  refine gq_iload_n hX dL_moveToRent_4 rfl rfl rfl ?_
  refine gq_callVX (nc1 := 0) (ns1 := 0) hX dL_moveToRent_5 vL_62 h rfl hW.c0 rfl rfl (Nat.le_of_ble_eq_true rfl) ⟨(Nat.le_of_ble_eq_true rfl), (Nat.le_of_ble_eq_true rfl)⟩ rfl rfl (fun v M1 z => z.elim) ?_
  rintro y M1 ⟨rfl, K1, hW1, hR⟩
  refine gx_catch hX (nm := "java/lang/IllegalStateException") [{ startPc := 0, endPc := 10, handlerPc := 13, catchType := 24 }] { startPc := 0, endPc := 10, handlerPc := 17, catchType := 15 } [] rfl (fun y hy => by
      rcases List.mem_cons.mp hy with rfl | hy
      · exact ⟨by decide, _, in3 54 rfl rfl, by decide⟩
      exact nomatch hy) (by decide) (by decide) (in2 238 rfl rfl) (nw3 10 rfl rfl) ?_
  intro qq
  refine gq_astore hX dL_moveToRent_17 rfl (Nat.le_of_ble_eq_true rfl) rfl ?_
  refine gq_iconst (v := nI 2) hX dL_moveToRent_19 rfl (by decide) ?_
  exact gq_iret hX hQ dL_moveToRent_20 rfl ⟨rfl, K1, hW1, hR⟩

set_option maxRecDepth 100000 in
set_option maxHeartbeats 4000000 in
theorem wl_moveToReturn_ok {E : Ev} {b : Nat → Nat} {K : Kt} {M : Hp} (hb : Lay E 162 b) (hW : Wd E b K M) {p0 : Int32} {p1 : Int32} {r : Int32} {R : Kt → Prop} {mc ms : Nat} (h1 : mc ≤ 23) (h2 : ms ≤ 3266) (h : Ct E mX4_moveToReturn [.ref (b 0), .int p0, .int p1] M (RsC E b (.int r) R) mc ms) : CtH E mL_moveToReturn [.ref (b 0), .int p0, .int p1, .ref (b 160)] M (RsC E b (.int (nI 0)) (LoR R r.toInt64)) 23 3266 := by
  refine CtH.of gmL_moveToReturn (ls := [.ref (b 0), .int p0, .int p1, .ref (b 160), hole]) rfl rfl (Nat.le_of_ble_eq_true rfl) ?_
  intro X hX Q hQ
  refine gq_bud (nc1 := mc) (ns1 := ms) h1 h2 ?_
  refine gq_aload_n hX dL_moveToReturn_0 rfl rfl rfl ?_
  refine gq_iconst (v := nI 0) hX dL_moveToReturn_1 rfl (by decide) ?_
  refine gq_aload_n hX dL_moveToReturn_2 rfl rfl rfl ?_
  refine gq_iload_n hX dL_moveToReturn_3 rfl rfl rfl ?_
  refine gq_iload_n hX dL_moveToReturn_4 rfl rfl rfl ?_
  refine gq_callV (nc1 := 0) (ns1 := 0) hX dL_moveToReturn_5 vL_65 h rfl hW.c0 rfl rfl (Nat.le_of_ble_eq_true rfl) ⟨(Nat.le_of_ble_eq_true rfl), (Nat.le_of_ble_eq_true rfl)⟩ rfl rfl ?_
  rintro v M1 ⟨rfl, K1, hW1, hR⟩
  refine gq_i2l hX dL_moveToReturn_8 rfl ?_
  refine gq_last hX dL_moveToReturn_9 rfl hW1.lo (vp_in_nI (by decide) (by decide)) (hb.2 160 (by decide)) rfl ?_
  have hW2 := hW1.wlo hb (vp_updL K1.2.2.2.2.2.2.1 (nI 0).toNatClampNeg r.toInt64)
  refine gq_goto (tgt := 21) hX dL_moveToReturn_10 rfl ?_
  refine gq_iconst (v := nI 0) hX dL_moveToReturn_21 rfl (by decide) ?_
  exact gq_iret hX hQ dL_moveToReturn_22 rfl ⟨rfl, _, hW2, K1, _, hR, rfl, rfl⟩

set_option maxRecDepth 100000 in
set_option maxHeartbeats 4000000 in
theorem wl_moveToReturn_1 {E : Ev} {b : Nat → Nat} {K : Kt} {M : Hp} (hb : Lay E 162 b) (hW : Wd E b K M) {p0 : Int32} {p1 : Int32} {R : Kt → Prop} {mc ms : Nat} (h1 : mc ≤ 23) (h2 : ms ≤ 3266) (h : CtX E mX4_moveToReturn [.ref (b 0), .int p0, .int p1] M NoR (ThC E b "java/lang/IndexOutOfBoundsException" R) mc ms) : CtH E mL_moveToReturn [.ref (b 0), .int p0, .int p1, .ref (b 160)] M (RsC E b (.int (nI 1)) R) 23 3266 := by
  refine CtH.of gmL_moveToReturn (ls := [.ref (b 0), .int p0, .int p1, .ref (b 160), hole]) rfl rfl (Nat.le_of_ble_eq_true rfl) ?_
  intro X hX Q hQ
  refine gq_bud (nc1 := mc) (ns1 := ms) h1 h2 ?_
  refine gq_aload_n hX dL_moveToReturn_0 rfl rfl rfl ?_
  refine gq_iconst (v := nI 0) hX dL_moveToReturn_1 rfl (by decide) ?_
  refine gq_aload_n hX dL_moveToReturn_2 rfl rfl rfl ?_
  refine gq_iload_n hX dL_moveToReturn_3 rfl rfl rfl ?_
  refine gq_iload_n hX dL_moveToReturn_4 rfl rfl rfl ?_
  refine gq_callVX (nc1 := 0) (ns1 := 0) hX dL_moveToReturn_5 vL_65 h rfl hW.c0 rfl rfl (Nat.le_of_ble_eq_true rfl) ⟨(Nat.le_of_ble_eq_true rfl), (Nat.le_of_ble_eq_true rfl)⟩ rfl rfl (fun v M1 z => z.elim) ?_
  rintro y M1 ⟨rfl, K1, hW1, hR⟩
  refine gx_catch hX (nm := "java/lang/IndexOutOfBoundsException") [] { startPc := 0, endPc := 10, handlerPc := 13, catchType := 24 } [{ startPc := 0, endPc := 10, handlerPc := 17, catchType := 15 }] rfl (fun y hy => nomatch hy) (by decide) (by decide) (in3 54 rfl rfl) (nw2 101 rfl rfl) ?_
  intro qq
  refine gq_astore hX dL_moveToReturn_13 rfl (Nat.le_of_ble_eq_true rfl) rfl ?_
  refine gq_iconst (v := nI 1) hX dL_moveToReturn_15 rfl (by decide) ?_
  exact gq_iret hX hQ dL_moveToReturn_16 rfl ⟨rfl, K1, hW1, hR⟩

set_option maxRecDepth 100000 in
set_option maxHeartbeats 4000000 in
theorem wl_moveToReturn_2 {E : Ev} {b : Nat → Nat} {K : Kt} {M : Hp} (hb : Lay E 162 b) (hW : Wd E b K M) {p0 : Int32} {p1 : Int32} {R : Kt → Prop} {mc ms : Nat} (h1 : mc ≤ 23) (h2 : ms ≤ 3266) (h : CtX E mX4_moveToReturn [.ref (b 0), .int p0, .int p1] M NoR (ThC E b "java/lang/IllegalStateException" R) mc ms) : CtH E mL_moveToReturn [.ref (b 0), .int p0, .int p1, .ref (b 160)] M (RsC E b (.int (nI 2)) R) 23 3266 := by
  refine CtH.of gmL_moveToReturn (ls := [.ref (b 0), .int p0, .int p1, .ref (b 160), hole]) rfl rfl (Nat.le_of_ble_eq_true rfl) ?_
  intro X hX Q hQ
  refine gq_bud (nc1 := mc) (ns1 := ms) h1 h2 ?_
  refine gq_aload_n hX dL_moveToReturn_0 rfl rfl rfl ?_
  refine gq_iconst (v := nI 0) hX dL_moveToReturn_1 rfl (by decide) ?_
  refine gq_aload_n hX dL_moveToReturn_2 rfl rfl rfl ?_
  refine gq_iload_n hX dL_moveToReturn_3 rfl rfl rfl ?_
  refine gq_iload_n hX dL_moveToReturn_4 rfl rfl rfl ?_
  refine gq_callVX (nc1 := 0) (ns1 := 0) hX dL_moveToReturn_5 vL_65 h rfl hW.c0 rfl rfl (Nat.le_of_ble_eq_true rfl) ⟨(Nat.le_of_ble_eq_true rfl), (Nat.le_of_ble_eq_true rfl)⟩ rfl rfl (fun v M1 z => z.elim) ?_
  rintro y M1 ⟨rfl, K1, hW1, hR⟩
  refine gx_catch hX (nm := "java/lang/IllegalStateException") [{ startPc := 0, endPc := 10, handlerPc := 13, catchType := 24 }] { startPc := 0, endPc := 10, handlerPc := 17, catchType := 15 } [] rfl (fun y hy => by
      rcases List.mem_cons.mp hy with rfl | hy
      · exact ⟨by decide, _, in3 54 rfl rfl, by decide⟩
      exact nomatch hy) (by decide) (by decide) (in2 238 rfl rfl) (nw3 10 rfl rfl) ?_
  intro qq
  refine gq_astore hX dL_moveToReturn_17 rfl (Nat.le_of_ble_eq_true rfl) rfl ?_
  refine gq_iconst (v := nI 2) hX dL_moveToReturn_19 rfl (by decide) ?_
  exact gq_iret hX hQ dL_moveToReturn_20 rfl ⟨rfl, K1, hW1, hR⟩

set_option maxRecDepth 100000 in
set_option maxHeartbeats 4000000 in
theorem wl_moveToGround_ok {E : Ev} {b : Nat → Nat} {K : Kt} {M : Hp} (hb : Lay E 162 b) (hW : Wd E b K M) {p0 : Int32} {p1 : Int32} {r : Int32} {R : Kt → Prop} {mc ms : Nat} (h1 : mc ≤ 23) (h2 : ms ≤ 3266) (h : Ct E mX4_moveToGround [.ref (b 0), .int p0, .int p1] M (RsC E b (.int r) R) mc ms) : CtH E mL_moveToGround [.ref (b 0), .int p0, .int p1, .ref (b 160)] M (RsC E b (.int (nI 0)) (LoR R r.toInt64)) 23 3266 := by
  refine CtH.of gmL_moveToGround (ls := [.ref (b 0), .int p0, .int p1, .ref (b 160), hole]) rfl rfl (Nat.le_of_ble_eq_true rfl) ?_
  intro X hX Q hQ
  refine gq_bud (nc1 := mc) (ns1 := ms) h1 h2 ?_
  refine gq_aload_n hX dL_moveToGround_0 rfl rfl rfl ?_
  refine gq_iconst (v := nI 0) hX dL_moveToGround_1 rfl (by decide) ?_
  refine gq_aload_n hX dL_moveToGround_2 rfl rfl rfl ?_
  refine gq_iload_n hX dL_moveToGround_3 rfl rfl rfl ?_
  refine gq_iload_n hX dL_moveToGround_4 rfl rfl rfl ?_
  refine gq_callV (nc1 := 0) (ns1 := 0) hX dL_moveToGround_5 vL_68 h rfl hW.c0 rfl rfl (Nat.le_of_ble_eq_true rfl) ⟨(Nat.le_of_ble_eq_true rfl), (Nat.le_of_ble_eq_true rfl)⟩ rfl rfl ?_
  rintro v M1 ⟨rfl, K1, hW1, hR⟩
  refine gq_i2l hX dL_moveToGround_8 rfl ?_
  refine gq_last hX dL_moveToGround_9 rfl hW1.lo (vp_in_nI (by decide) (by decide)) (hb.2 160 (by decide)) rfl ?_
  have hW2 := hW1.wlo hb (vp_updL K1.2.2.2.2.2.2.1 (nI 0).toNatClampNeg r.toInt64)
  refine gq_goto (tgt := 21) hX dL_moveToGround_10 rfl ?_
  refine gq_iconst (v := nI 0) hX dL_moveToGround_21 rfl (by decide) ?_
  exact gq_iret hX hQ dL_moveToGround_22 rfl ⟨rfl, _, hW2, K1, _, hR, rfl, rfl⟩

set_option maxRecDepth 100000 in
set_option maxHeartbeats 4000000 in
theorem wl_moveToGround_1 {E : Ev} {b : Nat → Nat} {K : Kt} {M : Hp} (hb : Lay E 162 b) (hW : Wd E b K M) {p0 : Int32} {p1 : Int32} {R : Kt → Prop} {mc ms : Nat} (h1 : mc ≤ 23) (h2 : ms ≤ 3266) (h : CtX E mX4_moveToGround [.ref (b 0), .int p0, .int p1] M NoR (ThC E b "java/lang/IndexOutOfBoundsException" R) mc ms) : CtH E mL_moveToGround [.ref (b 0), .int p0, .int p1, .ref (b 160)] M (RsC E b (.int (nI 1)) R) 23 3266 := by
  refine CtH.of gmL_moveToGround (ls := [.ref (b 0), .int p0, .int p1, .ref (b 160), hole]) rfl rfl (Nat.le_of_ble_eq_true rfl) ?_
  intro X hX Q hQ
  refine gq_bud (nc1 := mc) (ns1 := ms) h1 h2 ?_
  refine gq_aload_n hX dL_moveToGround_0 rfl rfl rfl ?_
  refine gq_iconst (v := nI 0) hX dL_moveToGround_1 rfl (by decide) ?_
  refine gq_aload_n hX dL_moveToGround_2 rfl rfl rfl ?_
  refine gq_iload_n hX dL_moveToGround_3 rfl rfl rfl ?_
  refine gq_iload_n hX dL_moveToGround_4 rfl rfl rfl ?_
  refine gq_callVX (nc1 := 0) (ns1 := 0) hX dL_moveToGround_5 vL_68 h rfl hW.c0 rfl rfl (Nat.le_of_ble_eq_true rfl) ⟨(Nat.le_of_ble_eq_true rfl), (Nat.le_of_ble_eq_true rfl)⟩ rfl rfl (fun v M1 z => z.elim) ?_
  rintro y M1 ⟨rfl, K1, hW1, hR⟩
  refine gx_catch hX (nm := "java/lang/IndexOutOfBoundsException") [] { startPc := 0, endPc := 10, handlerPc := 13, catchType := 24 } [{ startPc := 0, endPc := 10, handlerPc := 17, catchType := 15 }] rfl (fun y hy => nomatch hy) (by decide) (by decide) (in3 54 rfl rfl) (nw2 101 rfl rfl) ?_
  intro qq
  refine gq_astore hX dL_moveToGround_13 rfl (Nat.le_of_ble_eq_true rfl) rfl ?_
  refine gq_iconst (v := nI 1) hX dL_moveToGround_15 rfl (by decide) ?_
  exact gq_iret hX hQ dL_moveToGround_16 rfl ⟨rfl, K1, hW1, hR⟩

set_option maxRecDepth 100000 in
set_option maxHeartbeats 4000000 in
theorem wl_moveToGround_2 {E : Ev} {b : Nat → Nat} {K : Kt} {M : Hp} (hb : Lay E 162 b) (hW : Wd E b K M) {p0 : Int32} {p1 : Int32} {R : Kt → Prop} {mc ms : Nat} (h1 : mc ≤ 23) (h2 : ms ≤ 3266) (h : CtX E mX4_moveToGround [.ref (b 0), .int p0, .int p1] M NoR (ThC E b "java/lang/IllegalStateException" R) mc ms) : CtH E mL_moveToGround [.ref (b 0), .int p0, .int p1, .ref (b 160)] M (RsC E b (.int (nI 2)) R) 23 3266 := by
  refine CtH.of gmL_moveToGround (ls := [.ref (b 0), .int p0, .int p1, .ref (b 160), hole]) rfl rfl (Nat.le_of_ble_eq_true rfl) ?_
  intro X hX Q hQ
  refine gq_bud (nc1 := mc) (ns1 := ms) h1 h2 ?_
  refine gq_aload_n hX dL_moveToGround_0 rfl rfl rfl ?_
  refine gq_iconst (v := nI 0) hX dL_moveToGround_1 rfl (by decide) ?_
  refine gq_aload_n hX dL_moveToGround_2 rfl rfl rfl ?_
  refine gq_iload_n hX dL_moveToGround_3 rfl rfl rfl ?_
  refine gq_iload_n hX dL_moveToGround_4 rfl rfl rfl ?_
  refine gq_callVX (nc1 := 0) (ns1 := 0) hX dL_moveToGround_5 vL_68 h rfl hW.c0 rfl rfl (Nat.le_of_ble_eq_true rfl) ⟨(Nat.le_of_ble_eq_true rfl), (Nat.le_of_ble_eq_true rfl)⟩ rfl rfl (fun v M1 z => z.elim) ?_
  rintro y M1 ⟨rfl, K1, hW1, hR⟩
  refine gx_catch hX (nm := "java/lang/IllegalStateException") [{ startPc := 0, endPc := 10, handlerPc := 13, catchType := 24 }] { startPc := 0, endPc := 10, handlerPc := 17, catchType := 15 } [] rfl (fun y hy => by
      rcases List.mem_cons.mp hy with rfl | hy
      · exact ⟨by decide, _, in3 54 rfl rfl, by decide⟩
      exact nomatch hy) (by decide) (by decide) (in2 238 rfl rfl) (nw3 10 rfl rfl) ?_
  intro qq
  refine gq_astore hX dL_moveToGround_17 rfl (Nat.le_of_ble_eq_true rfl) rfl ?_
  refine gq_iconst (v := nI 2) hX dL_moveToGround_19 rfl (by decide) ?_
  exact gq_iret hX hQ dL_moveToGround_20 rfl ⟨rfl, K1, hW1, hR⟩

set_option maxRecDepth 100000 in
set_option maxHeartbeats 4000000 in
theorem wl_second_ok {E : Ev} {b : Nat → Nat} {K : Kt} {M : Hp} (hb : Lay E 162 b) (hW : Wd E b K M) {p0 : Int32} {p1 : Int32} {r : Int32} {R : Kt → Prop} {mc ms : Nat} (h1 : mc ≤ 23) (h2 : ms ≤ 3266) (h : Ct E mX4_second [.ref (b 0), .int p0, .int p1] M (RsC E b (.int r) R) mc ms) : CtH E mL_second [.ref (b 0), .int p0, .int p1, .ref (b 160)] M (RsC E b (.int (nI 0)) (LoR R r.toInt64)) 23 3266 := by
  refine CtH.of gmL_second (ls := [.ref (b 0), .int p0, .int p1, .ref (b 160), hole]) rfl rfl (Nat.le_of_ble_eq_true rfl) ?_
  intro X hX Q hQ
  refine gq_bud (nc1 := mc) (ns1 := ms) h1 h2 ?_
  refine gq_aload_n hX dL_second_0 rfl rfl rfl ?_
  refine gq_iconst (v := nI 0) hX dL_second_1 rfl (by decide) ?_
  refine gq_aload_n hX dL_second_2 rfl rfl rfl ?_
  refine gq_iload_n hX dL_second_3 rfl rfl rfl ?_
  refine gq_iload_n hX dL_second_4 rfl rfl rfl ?_
  refine gq_callV (nc1 := 0) (ns1 := 0) hX dL_second_5 vL_71 h rfl hW.c0 rfl rfl (Nat.le_of_ble_eq_true rfl) ⟨(Nat.le_of_ble_eq_true rfl), (Nat.le_of_ble_eq_true rfl)⟩ rfl rfl ?_
  rintro v M1 ⟨rfl, K1, hW1, hR⟩
  refine gq_i2l hX dL_second_8 rfl ?_
  refine gq_last hX dL_second_9 rfl hW1.lo (vp_in_nI (by decide) (by decide)) (hb.2 160 (by decide)) rfl ?_
  have hW2 := hW1.wlo hb (vp_updL K1.2.2.2.2.2.2.1 (nI 0).toNatClampNeg r.toInt64)
  refine gq_goto (tgt := 29) hX dL_second_10 rfl ?_
  refine gq_iconst (v := nI 0) hX dL_second_29 rfl (by decide) ?_
  exact gq_iret hX hQ dL_second_30 rfl ⟨rfl, _, hW2, K1, _, hR, rfl, rfl⟩

set_option maxRecDepth 100000 in
set_option maxHeartbeats 4000000 in
theorem wl_second_1 {E : Ev} {b : Nat → Nat} {K : Kt} {M : Hp} (hb : Lay E 162 b) (hW : Wd E b K M) {p0 : Int32} {p1 : Int32} {R : Kt → Prop} {mc ms : Nat} (h1 : mc ≤ 23) (h2 : ms ≤ 3266) (h : CtX E mX4_second [.ref (b 0), .int p0, .int p1] M NoR (ThC E b "java/lang/IndexOutOfBoundsException" R) mc ms) : CtH E mL_second [.ref (b 0), .int p0, .int p1, .ref (b 160)] M (RsC E b (.int (nI 1)) R) 23 3266 := by
  refine CtH.of gmL_second (ls := [.ref (b 0), .int p0, .int p1, .ref (b 160), hole]) rfl rfl (Nat.le_of_ble_eq_true rfl) ?_
  intro X hX Q hQ
  refine gq_bud (nc1 := mc) (ns1 := ms) h1 h2 ?_
  refine gq_aload_n hX dL_second_0 rfl rfl rfl ?_
  refine gq_iconst (v := nI 0) hX dL_second_1 rfl (by decide) ?_
  refine gq_aload_n hX dL_second_2 rfl rfl rfl ?_
  refine gq_iload_n hX dL_second_3 rfl rfl rfl ?_
  refine gq_iload_n hX dL_second_4 rfl rfl rfl ?_
  refine gq_callVX (nc1 := 0) (ns1 := 0) hX dL_second_5 vL_71 h rfl hW.c0 rfl rfl (Nat.le_of_ble_eq_true rfl) ⟨(Nat.le_of_ble_eq_true rfl), (Nat.le_of_ble_eq_true rfl)⟩ rfl rfl (fun v M1 z => z.elim) ?_
  rintro y M1 ⟨rfl, K1, hW1, hR⟩
  refine gx_catch hX (nm := "java/lang/IndexOutOfBoundsException") [] { startPc := 0, endPc := 10, handlerPc := 13, catchType := 24 } [{ startPc := 0, endPc := 10, handlerPc := 17, catchType := 56 }, { startPc := 0, endPc := 10, handlerPc := 21, catchType := 13 }, { startPc := 0, endPc := 10, handlerPc := 25, catchType := 15 }] rfl (fun y hy => nomatch hy) (by decide) (by decide) (in3 54 rfl rfl) (nw2 101 rfl rfl) ?_
  intro qq
  refine gq_astore hX dL_second_13 rfl (Nat.le_of_ble_eq_true rfl) rfl ?_
  refine gq_iconst (v := nI 1) hX dL_second_15 rfl (by decide) ?_
  exact gq_iret hX hQ dL_second_16 rfl ⟨rfl, K1, hW1, hR⟩

set_option maxRecDepth 100000 in
set_option maxHeartbeats 4000000 in
theorem wl_second_2 {E : Ev} {b : Nat → Nat} {K : Kt} {M : Hp} (hb : Lay E 162 b) (hW : Wd E b K M) {p0 : Int32} {p1 : Int32} {R : Kt → Prop} {mc ms : Nat} (h1 : mc ≤ 23) (h2 : ms ≤ 3266) (h : CtX E mX4_second [.ref (b 0), .int p0, .int p1] M NoR (ThC E b "java/util/NoSuchElementException" R) mc ms) : CtH E mL_second [.ref (b 0), .int p0, .int p1, .ref (b 160)] M (RsC E b (.int (nI 2)) R) 23 3266 := by
  refine CtH.of gmL_second (ls := [.ref (b 0), .int p0, .int p1, .ref (b 160), hole]) rfl rfl (Nat.le_of_ble_eq_true rfl) ?_
  intro X hX Q hQ
  refine gq_bud (nc1 := mc) (ns1 := ms) h1 h2 ?_
  refine gq_aload_n hX dL_second_0 rfl rfl rfl ?_
  refine gq_iconst (v := nI 0) hX dL_second_1 rfl (by decide) ?_
  refine gq_aload_n hX dL_second_2 rfl rfl rfl ?_
  refine gq_iload_n hX dL_second_3 rfl rfl rfl ?_
  refine gq_iload_n hX dL_second_4 rfl rfl rfl ?_
  refine gq_callVX (nc1 := 0) (ns1 := 0) hX dL_second_5 vL_71 h rfl hW.c0 rfl rfl (Nat.le_of_ble_eq_true rfl) ⟨(Nat.le_of_ble_eq_true rfl), (Nat.le_of_ble_eq_true rfl)⟩ rfl rfl (fun v M1 z => z.elim) ?_
  rintro y M1 ⟨rfl, K1, hW1, hR⟩
  refine gx_catch hX (nm := "java/util/NoSuchElementException") [{ startPc := 0, endPc := 10, handlerPc := 13, catchType := 24 }] { startPc := 0, endPc := 10, handlerPc := 17, catchType := 56 } [{ startPc := 0, endPc := 10, handlerPc := 21, catchType := 13 }, { startPc := 0, endPc := 10, handlerPc := 25, catchType := 15 }] rfl (fun y hy => by
      rcases List.mem_cons.mp hy with rfl | hy
      · exact ⟨by decide, _, in3 54 rfl rfl, by decide⟩
      exact nomatch hy) (by decide) (by decide) (in3 187 rfl rfl) (nw3 194 rfl rfl) ?_
  intro qq
  refine gq_astore hX dL_second_17 rfl (Nat.le_of_ble_eq_true rfl) rfl ?_
  refine gq_iconst (v := nI 2) hX dL_second_19 rfl (by decide) ?_
  exact gq_iret hX hQ dL_second_20 rfl ⟨rfl, K1, hW1, hR⟩

set_option maxRecDepth 100000 in
set_option maxHeartbeats 4000000 in
theorem wl_second_3 {E : Ev} {b : Nat → Nat} {K : Kt} {M : Hp} (hb : Lay E 162 b) (hW : Wd E b K M) {p0 : Int32} {p1 : Int32} {R : Kt → Prop} {mc ms : Nat} (h1 : mc ≤ 23) (h2 : ms ≤ 3266) (h : CtX E mX4_second [.ref (b 0), .int p0, .int p1] M NoR (ThC E b "java/lang/IllegalArgumentException" R) mc ms) : CtH E mL_second [.ref (b 0), .int p0, .int p1, .ref (b 160)] M (RsC E b (.int (nI 3)) R) 23 3266 := by
  refine CtH.of gmL_second (ls := [.ref (b 0), .int p0, .int p1, .ref (b 160), hole]) rfl rfl (Nat.le_of_ble_eq_true rfl) ?_
  intro X hX Q hQ
  refine gq_bud (nc1 := mc) (ns1 := ms) h1 h2 ?_
  refine gq_aload_n hX dL_second_0 rfl rfl rfl ?_
  refine gq_iconst (v := nI 0) hX dL_second_1 rfl (by decide) ?_
  refine gq_aload_n hX dL_second_2 rfl rfl rfl ?_
  refine gq_iload_n hX dL_second_3 rfl rfl rfl ?_
  refine gq_iload_n hX dL_second_4 rfl rfl rfl ?_
  refine gq_callVX (nc1 := 0) (ns1 := 0) hX dL_second_5 vL_71 h rfl hW.c0 rfl rfl (Nat.le_of_ble_eq_true rfl) ⟨(Nat.le_of_ble_eq_true rfl), (Nat.le_of_ble_eq_true rfl)⟩ rfl rfl (fun v M1 z => z.elim) ?_
  rintro y M1 ⟨rfl, K1, hW1, hR⟩
  refine gx_catch hX (nm := "java/lang/IllegalArgumentException") [{ startPc := 0, endPc := 10, handlerPc := 13, catchType := 24 }, { startPc := 0, endPc := 10, handlerPc := 17, catchType := 56 }] { startPc := 0, endPc := 10, handlerPc := 21, catchType := 13 } [{ startPc := 0, endPc := 10, handlerPc := 25, catchType := 15 }] rfl (fun y hy => by
      rcases List.mem_cons.mp hy with rfl | hy
      · exact ⟨by decide, _, in3 54 rfl rfl, by decide⟩
      rcases List.mem_cons.mp hy with rfl | hy
      · exact ⟨by decide, _, in3 187 rfl rfl, by decide⟩
      exact nomatch hy) (by decide) (by decide) (in2 237 rfl rfl) (nw2 173 rfl rfl) ?_
  intro qq
  refine gq_astore hX dL_second_21 rfl (Nat.le_of_ble_eq_true rfl) rfl ?_
  refine gq_iconst (v := nI 3) hX dL_second_23 rfl (by decide) ?_
  exact gq_iret hX hQ dL_second_24 rfl ⟨rfl, K1, hW1, hR⟩

set_option maxRecDepth 100000 in
set_option maxHeartbeats 4000000 in
theorem wl_second_4 {E : Ev} {b : Nat → Nat} {K : Kt} {M : Hp} (hb : Lay E 162 b) (hW : Wd E b K M) {p0 : Int32} {p1 : Int32} {R : Kt → Prop} {mc ms : Nat} (h1 : mc ≤ 23) (h2 : ms ≤ 3266) (h : CtX E mX4_second [.ref (b 0), .int p0, .int p1] M NoR (ThC E b "java/lang/IllegalStateException" R) mc ms) : CtH E mL_second [.ref (b 0), .int p0, .int p1, .ref (b 160)] M (RsC E b (.int (nI 4)) R) 23 3266 := by
  refine CtH.of gmL_second (ls := [.ref (b 0), .int p0, .int p1, .ref (b 160), hole]) rfl rfl (Nat.le_of_ble_eq_true rfl) ?_
  intro X hX Q hQ
  refine gq_bud (nc1 := mc) (ns1 := ms) h1 h2 ?_
  refine gq_aload_n hX dL_second_0 rfl rfl rfl ?_
  refine gq_iconst (v := nI 0) hX dL_second_1 rfl (by decide) ?_
  refine gq_aload_n hX dL_second_2 rfl rfl rfl ?_
  refine gq_iload_n hX dL_second_3 rfl rfl rfl ?_
  refine gq_iload_n hX dL_second_4 rfl rfl rfl ?_
  refine gq_callVX (nc1 := 0) (ns1 := 0) hX dL_second_5 vL_71 h rfl hW.c0 rfl rfl (Nat.le_of_ble_eq_true rfl) ⟨(Nat.le_of_ble_eq_true rfl), (Nat.le_of_ble_eq_true rfl)⟩ rfl rfl (fun v M1 z => z.elim) ?_
  rintro y M1 ⟨rfl, K1, hW1, hR⟩
  refine gx_catch hX (nm := "java/lang/IllegalStateException") [{ startPc := 0, endPc := 10, handlerPc := 13, catchType := 24 }, { startPc := 0, endPc := 10, handlerPc := 17, catchType := 56 }, { startPc := 0, endPc := 10, handlerPc := 21, catchType := 13 }] { startPc := 0, endPc := 10, handlerPc := 25, catchType := 15 } [] rfl (fun y hy => by
      rcases List.mem_cons.mp hy with rfl | hy
      · exact ⟨by decide, _, in3 54 rfl rfl, by decide⟩
      rcases List.mem_cons.mp hy with rfl | hy
      · exact ⟨by decide, _, in3 187 rfl rfl, by decide⟩
      rcases List.mem_cons.mp hy with rfl | hy
      · exact ⟨by decide, _, in2 237 rfl rfl, by decide⟩
      exact nomatch hy) (by decide) (by decide) (in2 238 rfl rfl) (nw3 10 rfl rfl) ?_
  intro qq
  refine gq_astore hX dL_second_25 rfl (Nat.le_of_ble_eq_true rfl) rfl ?_
  refine gq_iconst (v := nI 4) hX dL_second_27 rfl (by decide) ?_
  exact gq_iret hX hQ dL_second_28 rfl ⟨rfl, K1, hW1, hR⟩

set_option maxRecDepth 100000 in
set_option maxHeartbeats 4000000 in
theorem wl_untable_ok {E : Ev} {b : Nat → Nat} {K : Kt} {M : Hp} (hb : Lay E 162 b) (hW : Wd E b K M) {p0 : Int32} {r : Int32} {R : Kt → Prop} {mc ms : Nat} (h1 : mc ≤ 23) (h2 : ms ≤ 3266) (h : Ct E mX4_untable [.ref (b 0), .int p0] M (RsC E b (.int r) R) mc ms) : CtH E mL_untable [.ref (b 0), .int p0, .ref (b 160)] M (RsC E b (.int (nI 0)) (LoR R r.toInt64)) 23 3266 := by
  refine CtH.of gmL_untable (ls := [.ref (b 0), .int p0, .ref (b 160), hole]) rfl rfl (Nat.le_of_ble_eq_true rfl) ?_
  intro X hX Q hQ
  refine gq_bud (nc1 := mc) (ns1 := ms) h1 h2 ?_
  refine gq_aload_n hX dL_untable_0 rfl rfl rfl ?_
  refine gq_iconst (v := nI 0) hX dL_untable_1 rfl (by decide) ?_
  refine gq_aload_n hX dL_untable_2 rfl rfl rfl ?_
  refine gq_iload_n hX dL_untable_3 rfl rfl rfl ?_
  refine gq_callV (nc1 := 0) (ns1 := 0) hX dL_untable_4 vL_74 h rfl hW.c0 rfl rfl (Nat.le_of_ble_eq_true rfl) ⟨(Nat.le_of_ble_eq_true rfl), (Nat.le_of_ble_eq_true rfl)⟩ rfl rfl ?_
  rintro v M1 ⟨rfl, K1, hW1, hR⟩
  refine gq_i2l hX dL_untable_7 rfl ?_
  refine gq_last hX dL_untable_8 rfl hW1.lo (vp_in_nI (by decide) (by decide)) (hb.2 160 (by decide)) rfl ?_
  have hW2 := hW1.wlo hb (vp_updL K1.2.2.2.2.2.2.1 (nI 0).toNatClampNeg r.toInt64)
  refine gq_goto (tgt := 18) hX dL_untable_9 rfl ?_
  refine gq_iconst (v := nI 0) hX dL_untable_18 rfl (by decide) ?_
  exact gq_iret hX hQ dL_untable_19 rfl ⟨rfl, _, hW2, K1, _, hR, rfl, rfl⟩

set_option maxRecDepth 100000 in
set_option maxHeartbeats 4000000 in
theorem wl_untable_1 {E : Ev} {b : Nat → Nat} {K : Kt} {M : Hp} (hb : Lay E 162 b) (hW : Wd E b K M) {p0 : Int32} {R : Kt → Prop} {mc ms : Nat} (h1 : mc ≤ 23) (h2 : ms ≤ 3266) (h : CtX E mX4_untable [.ref (b 0), .int p0] M NoR (ThC E b "java/util/NoSuchElementException" R) mc ms) : CtH E mL_untable [.ref (b 0), .int p0, .ref (b 160)] M (RsC E b (.int (nI 1)) R) 23 3266 := by
  refine CtH.of gmL_untable (ls := [.ref (b 0), .int p0, .ref (b 160), hole]) rfl rfl (Nat.le_of_ble_eq_true rfl) ?_
  intro X hX Q hQ
  refine gq_bud (nc1 := mc) (ns1 := ms) h1 h2 ?_
  refine gq_aload_n hX dL_untable_0 rfl rfl rfl ?_
  refine gq_iconst (v := nI 0) hX dL_untable_1 rfl (by decide) ?_
  refine gq_aload_n hX dL_untable_2 rfl rfl rfl ?_
  refine gq_iload_n hX dL_untable_3 rfl rfl rfl ?_
  refine gq_callVX (nc1 := 0) (ns1 := 0) hX dL_untable_4 vL_74 h rfl hW.c0 rfl rfl (Nat.le_of_ble_eq_true rfl) ⟨(Nat.le_of_ble_eq_true rfl), (Nat.le_of_ble_eq_true rfl)⟩ rfl rfl (fun v M1 z => z.elim) ?_
  rintro y M1 ⟨rfl, K1, hW1, hR⟩
  refine gx_catch hX (nm := "java/util/NoSuchElementException") [] { startPc := 0, endPc := 9, handlerPc := 12, catchType := 56 } [{ startPc := 0, endPc := 9, handlerPc := 15, catchType := 15 }] rfl (fun y hy => nomatch hy) (by decide) (by decide) (in3 187 rfl rfl) (nw3 194 rfl rfl) ?_
  intro qq
  refine gq_astore_n hX dL_untable_12 rfl rfl (Nat.le_of_ble_eq_true rfl) rfl ?_
  refine gq_iconst (v := nI 1) hX dL_untable_13 rfl (by decide) ?_
  exact gq_iret hX hQ dL_untable_14 rfl ⟨rfl, K1, hW1, hR⟩

set_option maxRecDepth 100000 in
set_option maxHeartbeats 4000000 in
theorem wl_untable_2 {E : Ev} {b : Nat → Nat} {K : Kt} {M : Hp} (hb : Lay E 162 b) (hW : Wd E b K M) {p0 : Int32} {R : Kt → Prop} {mc ms : Nat} (h1 : mc ≤ 23) (h2 : ms ≤ 3266) (h : CtX E mX4_untable [.ref (b 0), .int p0] M NoR (ThC E b "java/lang/IllegalStateException" R) mc ms) : CtH E mL_untable [.ref (b 0), .int p0, .ref (b 160)] M (RsC E b (.int (nI 2)) R) 23 3266 := by
  refine CtH.of gmL_untable (ls := [.ref (b 0), .int p0, .ref (b 160), hole]) rfl rfl (Nat.le_of_ble_eq_true rfl) ?_
  intro X hX Q hQ
  refine gq_bud (nc1 := mc) (ns1 := ms) h1 h2 ?_
  refine gq_aload_n hX dL_untable_0 rfl rfl rfl ?_
  refine gq_iconst (v := nI 0) hX dL_untable_1 rfl (by decide) ?_
  refine gq_aload_n hX dL_untable_2 rfl rfl rfl ?_
  refine gq_iload_n hX dL_untable_3 rfl rfl rfl ?_
  refine gq_callVX (nc1 := 0) (ns1 := 0) hX dL_untable_4 vL_74 h rfl hW.c0 rfl rfl (Nat.le_of_ble_eq_true rfl) ⟨(Nat.le_of_ble_eq_true rfl), (Nat.le_of_ble_eq_true rfl)⟩ rfl rfl (fun v M1 z => z.elim) ?_
  rintro y M1 ⟨rfl, K1, hW1, hR⟩
  refine gx_catch hX (nm := "java/lang/IllegalStateException") [{ startPc := 0, endPc := 9, handlerPc := 12, catchType := 56 }] { startPc := 0, endPc := 9, handlerPc := 15, catchType := 15 } [] rfl (fun y hy => by
      rcases List.mem_cons.mp hy with rfl | hy
      · exact ⟨by decide, _, in3 187 rfl rfl, by decide⟩
      exact nomatch hy) (by decide) (by decide) (in2 238 rfl rfl) (nw3 10 rfl rfl) ?_
  intro qq
  refine gq_astore_n hX dL_untable_15 rfl rfl (Nat.le_of_ble_eq_true rfl) rfl ?_
  refine gq_iconst (v := nI 2) hX dL_untable_16 rfl (by decide) ?_
  exact gq_iret hX hQ dL_untable_17 rfl ⟨rfl, K1, hW1, hR⟩

set_option maxRecDepth 100000 in
set_option maxHeartbeats 4000000 in
theorem wl_withdraw_ok {E : Ev} {b : Nat → Nat} {K : Kt} {M : Hp} (hb : Lay E 162 b) (hW : Wd E b K M) {p0 : Int32} {r : Int32} {R : Kt → Prop} {mc ms : Nat} (h1 : mc ≤ 23) (h2 : ms ≤ 3266) (h : Ct E mX4_withdraw [.ref (b 0), .int p0] M (RsC E b (.int r) R) mc ms) : CtH E mL_withdraw [.ref (b 0), .int p0, .ref (b 160)] M (RsC E b (.int (nI 0)) (LoR R r.toInt64)) 23 3266 := by
  refine CtH.of gmL_withdraw (ls := [.ref (b 0), .int p0, .ref (b 160), hole]) rfl rfl (Nat.le_of_ble_eq_true rfl) ?_
  intro X hX Q hQ
  refine gq_bud (nc1 := mc) (ns1 := ms) h1 h2 ?_
  refine gq_aload_n hX dL_withdraw_0 rfl rfl rfl ?_
  refine gq_iconst (v := nI 0) hX dL_withdraw_1 rfl (by decide) ?_
  refine gq_aload_n hX dL_withdraw_2 rfl rfl rfl ?_
  refine gq_iload_n hX dL_withdraw_3 rfl rfl rfl ?_
  refine gq_callV (nc1 := 0) (ns1 := 0) hX dL_withdraw_4 vL_77 h rfl hW.c0 rfl rfl (Nat.le_of_ble_eq_true rfl) ⟨(Nat.le_of_ble_eq_true rfl), (Nat.le_of_ble_eq_true rfl)⟩ rfl rfl ?_
  rintro v M1 ⟨rfl, K1, hW1, hR⟩
  refine gq_i2l hX dL_withdraw_7 rfl ?_
  refine gq_last hX dL_withdraw_8 rfl hW1.lo (vp_in_nI (by decide) (by decide)) (hb.2 160 (by decide)) rfl ?_
  have hW2 := hW1.wlo hb (vp_updL K1.2.2.2.2.2.2.1 (nI 0).toNatClampNeg r.toInt64)
  refine gq_goto (tgt := 15) hX dL_withdraw_9 rfl ?_
  refine gq_iconst (v := nI 0) hX dL_withdraw_15 rfl (by decide) ?_
  exact gq_iret hX hQ dL_withdraw_16 rfl ⟨rfl, _, hW2, K1, _, hR, rfl, rfl⟩

set_option maxRecDepth 100000 in
set_option maxHeartbeats 4000000 in
theorem wl_withdraw_1 {E : Ev} {b : Nat → Nat} {K : Kt} {M : Hp} (hb : Lay E 162 b) (hW : Wd E b K M) {p0 : Int32} {R : Kt → Prop} {mc ms : Nat} (h1 : mc ≤ 23) (h2 : ms ≤ 3266) (h : CtX E mX4_withdraw [.ref (b 0), .int p0] M NoR (ThC E b "java/util/NoSuchElementException" R) mc ms) : CtH E mL_withdraw [.ref (b 0), .int p0, .ref (b 160)] M (RsC E b (.int (nI 1)) R) 23 3266 := by
  refine CtH.of gmL_withdraw (ls := [.ref (b 0), .int p0, .ref (b 160), hole]) rfl rfl (Nat.le_of_ble_eq_true rfl) ?_
  intro X hX Q hQ
  refine gq_bud (nc1 := mc) (ns1 := ms) h1 h2 ?_
  refine gq_aload_n hX dL_withdraw_0 rfl rfl rfl ?_
  refine gq_iconst (v := nI 0) hX dL_withdraw_1 rfl (by decide) ?_
  refine gq_aload_n hX dL_withdraw_2 rfl rfl rfl ?_
  refine gq_iload_n hX dL_withdraw_3 rfl rfl rfl ?_
  refine gq_callVX (nc1 := 0) (ns1 := 0) hX dL_withdraw_4 vL_77 h rfl hW.c0 rfl rfl (Nat.le_of_ble_eq_true rfl) ⟨(Nat.le_of_ble_eq_true rfl), (Nat.le_of_ble_eq_true rfl)⟩ rfl rfl (fun v M1 z => z.elim) ?_
  rintro y M1 ⟨rfl, K1, hW1, hR⟩
  refine gx_catch hX (nm := "java/util/NoSuchElementException") [] { startPc := 0, endPc := 9, handlerPc := 12, catchType := 56 } [] rfl (fun y hy => nomatch hy) (by decide) (by decide) (in3 187 rfl rfl) (nw3 194 rfl rfl) ?_
  intro qq
  refine gq_astore_n hX dL_withdraw_12 rfl rfl (Nat.le_of_ble_eq_true rfl) rfl ?_
  refine gq_iconst (v := nI 1) hX dL_withdraw_13 rfl (by decide) ?_
  exact gq_iret hX hQ dL_withdraw_14 rfl ⟨rfl, K1, hW1, hR⟩

set_option maxRecDepth 100000 in
set_option maxHeartbeats 4000000 in
theorem wl_vote_ok {E : Ev} {b : Nat → Nat} {K : Kt} {M : Hp} (hb : Lay E 162 b) (hW : Wd E b K M) {p0 : Int32} {r : Int32} {R : Kt → Prop} {mc ms : Nat} (h1 : mc ≤ 23) (h2 : ms ≤ 3266) (h : Ct E mX4_vote [.ref (b 0), .int p0] M (RsC E b (.int r) R) mc ms) : CtH E mL_vote [.ref (b 0), .int p0, .ref (b 160)] M (RsC E b (.int (nI 0)) (LoR R (if r = 0 then 0 else 1))) 23 3266 := by
  refine CtH.of gmL_vote (ls := [.ref (b 0), .int p0, .ref (b 160), hole]) rfl rfl (Nat.le_of_ble_eq_true rfl) ?_
  intro X hX Q hQ
  refine gq_bud (nc1 := mc) (ns1 := ms) h1 h2 ?_
  refine gq_aload_n hX dL_vote_0 rfl rfl rfl ?_
  refine gq_iconst (v := nI 0) hX dL_vote_1 rfl (by decide) ?_
  refine gq_aload_n hX dL_vote_2 rfl rfl rfl ?_
  refine gq_iload_n hX dL_vote_3 rfl rfl rfl ?_
  refine gq_callV (nc1 := 0) (ns1 := 0) hX dL_vote_4 vL_80 h rfl hW.c0 rfl rfl (Nat.le_of_ble_eq_true rfl) ⟨(Nat.le_of_ble_eq_true rfl), (Nat.le_of_ble_eq_true rfl)⟩ rfl rfl ?_
  rintro v M1 ⟨rfl, K1, hW1, hR⟩
  by_cases h0 : r = 0
  · refine gq_if_eqT (tgt := 14) hX dL_vote_7 rfl h0 ?_
    refine gq_lconst (v := 0) hX dL_vote_14 rfl (by decide) ?_
    refine gq_last hX dL_vote_15 rfl hW1.lo (vp_in_nI (by decide) (by decide)) (hb.2 160 (by decide)) rfl ?_
    have hW2 := hW1.wlo hb (vp_updL K1.2.2.2.2.2.2.1 (nI 0).toNatClampNeg 0)
    refine gq_goto (tgt := 25) hX dL_vote_16 rfl ?_
    refine gq_iconst (v := nI 0) hX dL_vote_25 rfl (by decide) ?_
    exact gq_iret hX hQ dL_vote_26 rfl ⟨rfl, _, hW2, K1, _, hR, rfl, by rw [if_pos h0]; rfl⟩
  · refine gq_if_eqF (tgt := 14) hX dL_vote_7 rfl rfl h0 ?_
    refine gq_lconst (v := 1) hX dL_vote_10 rfl (by decide) ?_
    refine gq_goto (tgt := 15) hX dL_vote_11 rfl ?_
    refine gq_last hX dL_vote_15 rfl hW1.lo (vp_in_nI (by decide) (by decide)) (hb.2 160 (by decide)) rfl ?_
    have hW2 := hW1.wlo hb (vp_updL K1.2.2.2.2.2.2.1 (nI 0).toNatClampNeg 1)
    refine gq_goto (tgt := 25) hX dL_vote_16 rfl ?_
    refine gq_iconst (v := nI 0) hX dL_vote_25 rfl (by decide) ?_
    exact gq_iret hX hQ dL_vote_26 rfl ⟨rfl, _, hW2, K1, _, hR, rfl, by rw [if_neg h0]; rfl⟩

set_option maxRecDepth 100000 in
set_option maxHeartbeats 4000000 in
theorem wl_vote_1 {E : Ev} {b : Nat → Nat} {K : Kt} {M : Hp} (hb : Lay E 162 b) (hW : Wd E b K M) {p0 : Int32} {R : Kt → Prop} {mc ms : Nat} (h1 : mc ≤ 23) (h2 : ms ≤ 3266) (h : CtX E mX4_vote [.ref (b 0), .int p0] M NoR (ThC E b "java/util/NoSuchElementException" R) mc ms) : CtH E mL_vote [.ref (b 0), .int p0, .ref (b 160)] M (RsC E b (.int (nI 1)) R) 23 3266 := by
  refine CtH.of gmL_vote (ls := [.ref (b 0), .int p0, .ref (b 160), hole]) rfl rfl (Nat.le_of_ble_eq_true rfl) ?_
  intro X hX Q hQ
  refine gq_bud (nc1 := mc) (ns1 := ms) h1 h2 ?_
  refine gq_aload_n hX dL_vote_0 rfl rfl rfl ?_
  refine gq_iconst (v := nI 0) hX dL_vote_1 rfl (by decide) ?_
  refine gq_aload_n hX dL_vote_2 rfl rfl rfl ?_
  refine gq_iload_n hX dL_vote_3 rfl rfl rfl ?_
  refine gq_callVX (nc1 := 0) (ns1 := 0) hX dL_vote_4 vL_80 h rfl hW.c0 rfl rfl (Nat.le_of_ble_eq_true rfl) ⟨(Nat.le_of_ble_eq_true rfl), (Nat.le_of_ble_eq_true rfl)⟩ rfl rfl (fun v M1 z => z.elim) ?_
  rintro y M1 ⟨rfl, K1, hW1, hR⟩
  refine gx_catch hX (nm := "java/util/NoSuchElementException") [] { startPc := 0, endPc := 16, handlerPc := 19, catchType := 56 } [{ startPc := 0, endPc := 16, handlerPc := 22, catchType := 15 }] rfl (fun y hy => nomatch hy) (by decide) (by decide) (in3 187 rfl rfl) (nw3 194 rfl rfl) ?_
  intro qq
  refine gq_astore_n hX dL_vote_19 rfl rfl (Nat.le_of_ble_eq_true rfl) rfl ?_
  refine gq_iconst (v := nI 1) hX dL_vote_20 rfl (by decide) ?_
  exact gq_iret hX hQ dL_vote_21 rfl ⟨rfl, K1, hW1, hR⟩

set_option maxRecDepth 100000 in
set_option maxHeartbeats 4000000 in
theorem wl_vote_2 {E : Ev} {b : Nat → Nat} {K : Kt} {M : Hp} (hb : Lay E 162 b) (hW : Wd E b K M) {p0 : Int32} {R : Kt → Prop} {mc ms : Nat} (h1 : mc ≤ 23) (h2 : ms ≤ 3266) (h : CtX E mX4_vote [.ref (b 0), .int p0] M NoR (ThC E b "java/lang/IllegalStateException" R) mc ms) : CtH E mL_vote [.ref (b 0), .int p0, .ref (b 160)] M (RsC E b (.int (nI 2)) R) 23 3266 := by
  refine CtH.of gmL_vote (ls := [.ref (b 0), .int p0, .ref (b 160), hole]) rfl rfl (Nat.le_of_ble_eq_true rfl) ?_
  intro X hX Q hQ
  refine gq_bud (nc1 := mc) (ns1 := ms) h1 h2 ?_
  refine gq_aload_n hX dL_vote_0 rfl rfl rfl ?_
  refine gq_iconst (v := nI 0) hX dL_vote_1 rfl (by decide) ?_
  refine gq_aload_n hX dL_vote_2 rfl rfl rfl ?_
  refine gq_iload_n hX dL_vote_3 rfl rfl rfl ?_
  refine gq_callVX (nc1 := 0) (ns1 := 0) hX dL_vote_4 vL_80 h rfl hW.c0 rfl rfl (Nat.le_of_ble_eq_true rfl) ⟨(Nat.le_of_ble_eq_true rfl), (Nat.le_of_ble_eq_true rfl)⟩ rfl rfl (fun v M1 z => z.elim) ?_
  rintro y M1 ⟨rfl, K1, hW1, hR⟩
  refine gx_catch hX (nm := "java/lang/IllegalStateException") [{ startPc := 0, endPc := 16, handlerPc := 19, catchType := 56 }] { startPc := 0, endPc := 16, handlerPc := 22, catchType := 15 } [] rfl (fun y hy => by
      rcases List.mem_cons.mp hy with rfl | hy
      · exact ⟨by decide, _, in3 187 rfl rfl, by decide⟩
      exact nomatch hy) (by decide) (by decide) (in2 238 rfl rfl) (nw3 10 rfl rfl) ?_
  intro qq
  refine gq_astore_n hX dL_vote_22 rfl rfl (Nat.le_of_ble_eq_true rfl) rfl ?_
  refine gq_iconst (v := nI 2) hX dL_vote_23 rfl (by decide) ?_
  exact gq_iret hX hQ dL_vote_24 rfl ⟨rfl, K1, hW1, hR⟩

set_option maxRecDepth 100000 in
set_option maxHeartbeats 4000000 in
theorem wl_motionAt_ok {E : Ev} {b : Nat → Nat} {K : Kt} {M : Hp} (hb : Lay E 162 b) (hW : Wd E b K M) {p0 : Int32} {r : Int32} {R : Kt → Prop} {mc ms : Nat} (h1 : mc ≤ 23) (h2 : ms ≤ 3266) (h : Ct E mX4_motionAt [.ref (b 0), .int p0] M (RsC E b (.int r) R) mc ms) : CtH E mL_motionAt [.ref (b 0), .int p0, .ref (b 160)] M (RsC E b (.int (nI 0)) (LoR R r.toInt64)) 23 3266 := by
  refine CtH.of gmL_motionAt (ls := [.ref (b 0), .int p0, .ref (b 160), hole]) rfl rfl (Nat.le_of_ble_eq_true rfl) ?_
  intro X hX Q hQ
  refine gq_bud (nc1 := mc) (ns1 := ms) h1 h2 ?_
  refine gq_aload_n hX dL_motionAt_0 rfl rfl rfl ?_
  refine gq_iconst (v := nI 0) hX dL_motionAt_1 rfl (by decide) ?_
  refine gq_aload_n hX dL_motionAt_2 rfl rfl rfl ?_
  refine gq_iload_n hX dL_motionAt_3 rfl rfl rfl ?_
  refine gq_callV (nc1 := 0) (ns1 := 0) hX dL_motionAt_4 vL_83 h rfl hW.c0 rfl rfl (Nat.le_of_ble_eq_true rfl) ⟨(Nat.le_of_ble_eq_true rfl), (Nat.le_of_ble_eq_true rfl)⟩ rfl rfl ?_
  rintro v M1 ⟨rfl, K1, hW1, hR⟩
  refine gq_i2l hX dL_motionAt_7 rfl ?_
  refine gq_last hX dL_motionAt_8 rfl hW1.lo (vp_in_nI (by decide) (by decide)) (hb.2 160 (by decide)) rfl ?_
  have hW2 := hW1.wlo hb (vp_updL K1.2.2.2.2.2.2.1 (nI 0).toNatClampNeg r.toInt64)
  refine gq_goto (tgt := 15) hX dL_motionAt_9 rfl ?_
  refine gq_iconst (v := nI 0) hX dL_motionAt_15 rfl (by decide) ?_
  exact gq_iret hX hQ dL_motionAt_16 rfl ⟨rfl, _, hW2, K1, _, hR, rfl, rfl⟩

set_option maxRecDepth 100000 in
set_option maxHeartbeats 4000000 in
theorem wl_motionAt_1 {E : Ev} {b : Nat → Nat} {K : Kt} {M : Hp} (hb : Lay E 162 b) (hW : Wd E b K M) {p0 : Int32} {R : Kt → Prop} {mc ms : Nat} (h1 : mc ≤ 23) (h2 : ms ≤ 3266) (h : CtX E mX4_motionAt [.ref (b 0), .int p0] M NoR (ThC E b "java/lang/IndexOutOfBoundsException" R) mc ms) : CtH E mL_motionAt [.ref (b 0), .int p0, .ref (b 160)] M (RsC E b (.int (nI 1)) R) 23 3266 := by
  refine CtH.of gmL_motionAt (ls := [.ref (b 0), .int p0, .ref (b 160), hole]) rfl rfl (Nat.le_of_ble_eq_true rfl) ?_
  intro X hX Q hQ
  refine gq_bud (nc1 := mc) (ns1 := ms) h1 h2 ?_
  refine gq_aload_n hX dL_motionAt_0 rfl rfl rfl ?_
  refine gq_iconst (v := nI 0) hX dL_motionAt_1 rfl (by decide) ?_
  refine gq_aload_n hX dL_motionAt_2 rfl rfl rfl ?_
  refine gq_iload_n hX dL_motionAt_3 rfl rfl rfl ?_
  refine gq_callVX (nc1 := 0) (ns1 := 0) hX dL_motionAt_4 vL_83 h rfl hW.c0 rfl rfl (Nat.le_of_ble_eq_true rfl) ⟨(Nat.le_of_ble_eq_true rfl), (Nat.le_of_ble_eq_true rfl)⟩ rfl rfl (fun v M1 z => z.elim) ?_
  rintro y M1 ⟨rfl, K1, hW1, hR⟩
  refine gx_catch hX (nm := "java/lang/IndexOutOfBoundsException") [] { startPc := 0, endPc := 9, handlerPc := 12, catchType := 24 } [] rfl (fun y hy => nomatch hy) (by decide) (by decide) (in3 54 rfl rfl) (nw2 101 rfl rfl) ?_
  intro qq
  refine gq_astore_n hX dL_motionAt_12 rfl rfl (Nat.le_of_ble_eq_true rfl) rfl ?_
  refine gq_iconst (v := nI 1) hX dL_motionAt_13 rfl (by decide) ?_
  exact gq_iret hX hQ dL_motionAt_14 rfl ⟨rfl, K1, hW1, hR⟩

set_option maxRecDepth 100000 in
set_option maxHeartbeats 4000000 in
theorem wl_moverOf_ok {E : Ev} {b : Nat → Nat} {K : Kt} {M : Hp} (hb : Lay E 162 b) (hW : Wd E b K M) {p0 : Int32} {r : Int32} {R : Kt → Prop} {mc ms : Nat} (h1 : mc ≤ 23) (h2 : ms ≤ 3266) (h : Ct E mX4_moverOf [.ref (b 0), .int p0] M (RsC E b (.int r) R) mc ms) : CtH E mL_moverOf [.ref (b 0), .int p0, .ref (b 160)] M (RsC E b (.int (nI 0)) (LoR R r.toInt64)) 23 3266 := by
  refine CtH.of gmL_moverOf (ls := [.ref (b 0), .int p0, .ref (b 160), hole]) rfl rfl (Nat.le_of_ble_eq_true rfl) ?_
  intro X hX Q hQ
  refine gq_bud (nc1 := mc) (ns1 := ms) h1 h2 ?_
  refine gq_aload_n hX dL_moverOf_0 rfl rfl rfl ?_
  refine gq_iconst (v := nI 0) hX dL_moverOf_1 rfl (by decide) ?_
  refine gq_aload_n hX dL_moverOf_2 rfl rfl rfl ?_
  refine gq_iload_n hX dL_moverOf_3 rfl rfl rfl ?_
  refine gq_callV (nc1 := 0) (ns1 := 0) hX dL_moverOf_4 vL_86 h rfl hW.c0 rfl rfl (Nat.le_of_ble_eq_true rfl) ⟨(Nat.le_of_ble_eq_true rfl), (Nat.le_of_ble_eq_true rfl)⟩ rfl rfl ?_
  rintro v M1 ⟨rfl, K1, hW1, hR⟩
  refine gq_i2l hX dL_moverOf_7 rfl ?_
  refine gq_last hX dL_moverOf_8 rfl hW1.lo (vp_in_nI (by decide) (by decide)) (hb.2 160 (by decide)) rfl ?_
  have hW2 := hW1.wlo hb (vp_updL K1.2.2.2.2.2.2.1 (nI 0).toNatClampNeg r.toInt64)
  refine gq_goto (tgt := 15) hX dL_moverOf_9 rfl ?_
  refine gq_iconst (v := nI 0) hX dL_moverOf_15 rfl (by decide) ?_
  exact gq_iret hX hQ dL_moverOf_16 rfl ⟨rfl, _, hW2, K1, _, hR, rfl, rfl⟩

set_option maxRecDepth 100000 in
set_option maxHeartbeats 4000000 in
theorem wl_moverOf_1 {E : Ev} {b : Nat → Nat} {K : Kt} {M : Hp} (hb : Lay E 162 b) (hW : Wd E b K M) {p0 : Int32} {R : Kt → Prop} {mc ms : Nat} (h1 : mc ≤ 23) (h2 : ms ≤ 3266) (h : CtX E mX4_moverOf [.ref (b 0), .int p0] M NoR (ThC E b "java/util/NoSuchElementException" R) mc ms) : CtH E mL_moverOf [.ref (b 0), .int p0, .ref (b 160)] M (RsC E b (.int (nI 1)) R) 23 3266 := by
  refine CtH.of gmL_moverOf (ls := [.ref (b 0), .int p0, .ref (b 160), hole]) rfl rfl (Nat.le_of_ble_eq_true rfl) ?_
  intro X hX Q hQ
  refine gq_bud (nc1 := mc) (ns1 := ms) h1 h2 ?_
  refine gq_aload_n hX dL_moverOf_0 rfl rfl rfl ?_
  refine gq_iconst (v := nI 0) hX dL_moverOf_1 rfl (by decide) ?_
  refine gq_aload_n hX dL_moverOf_2 rfl rfl rfl ?_
  refine gq_iload_n hX dL_moverOf_3 rfl rfl rfl ?_
  refine gq_callVX (nc1 := 0) (ns1 := 0) hX dL_moverOf_4 vL_86 h rfl hW.c0 rfl rfl (Nat.le_of_ble_eq_true rfl) ⟨(Nat.le_of_ble_eq_true rfl), (Nat.le_of_ble_eq_true rfl)⟩ rfl rfl (fun v M1 z => z.elim) ?_
  rintro y M1 ⟨rfl, K1, hW1, hR⟩
  refine gx_catch hX (nm := "java/util/NoSuchElementException") [] { startPc := 0, endPc := 9, handlerPc := 12, catchType := 56 } [] rfl (fun y hy => nomatch hy) (by decide) (by decide) (in3 187 rfl rfl) (nw3 194 rfl rfl) ?_
  intro qq
  refine gq_astore_n hX dL_moverOf_12 rfl rfl (Nat.le_of_ble_eq_true rfl) rfl ?_
  refine gq_iconst (v := nI 1) hX dL_moverOf_13 rfl (by decide) ?_
  exact gq_iret hX hQ dL_moverOf_14 rfl ⟨rfl, K1, hW1, hR⟩

set_option maxRecDepth 100000 in
set_option maxHeartbeats 4000000 in
theorem wl_isSeconded_ok {E : Ev} {b : Nat → Nat} {K : Kt} {M : Hp} (hb : Lay E 162 b) (hW : Wd E b K M) {p0 : Int32} {r : Int32} {R : Kt → Prop} {mc ms : Nat} (h1 : mc ≤ 23) (h2 : ms ≤ 3266) (h : Ct E mX4_isSeconded [.ref (b 0), .int p0] M (RsC E b (.int r) R) mc ms) : CtH E mL_isSeconded [.ref (b 0), .int p0, .ref (b 160)] M (RsC E b (.int (nI 0)) (LoR R (if r = 0 then 0 else 1))) 23 3266 := by
  refine CtH.of gmL_isSeconded (ls := [.ref (b 0), .int p0, .ref (b 160), hole]) rfl rfl (Nat.le_of_ble_eq_true rfl) ?_
  intro X hX Q hQ
  refine gq_bud (nc1 := mc) (ns1 := ms) h1 h2 ?_
  refine gq_aload_n hX dL_isSeconded_0 rfl rfl rfl ?_
  refine gq_iconst (v := nI 0) hX dL_isSeconded_1 rfl (by decide) ?_
  refine gq_aload_n hX dL_isSeconded_2 rfl rfl rfl ?_
  refine gq_iload_n hX dL_isSeconded_3 rfl rfl rfl ?_
  refine gq_callV (nc1 := 0) (ns1 := 0) hX dL_isSeconded_4 vL_89 h rfl hW.c0 rfl rfl (Nat.le_of_ble_eq_true rfl) ⟨(Nat.le_of_ble_eq_true rfl), (Nat.le_of_ble_eq_true rfl)⟩ rfl rfl ?_
  rintro v M1 ⟨rfl, K1, hW1, hR⟩
  by_cases h0 : r = 0
  · refine gq_if_eqT (tgt := 14) hX dL_isSeconded_7 rfl h0 ?_
    refine gq_lconst (v := 0) hX dL_isSeconded_14 rfl (by decide) ?_
    refine gq_last hX dL_isSeconded_15 rfl hW1.lo (vp_in_nI (by decide) (by decide)) (hb.2 160 (by decide)) rfl ?_
    have hW2 := hW1.wlo hb (vp_updL K1.2.2.2.2.2.2.1 (nI 0).toNatClampNeg 0)
    refine gq_goto (tgt := 22) hX dL_isSeconded_16 rfl ?_
    refine gq_iconst (v := nI 0) hX dL_isSeconded_22 rfl (by decide) ?_
    exact gq_iret hX hQ dL_isSeconded_23 rfl ⟨rfl, _, hW2, K1, _, hR, rfl, by rw [if_pos h0]; rfl⟩
  · refine gq_if_eqF (tgt := 14) hX dL_isSeconded_7 rfl rfl h0 ?_
    refine gq_lconst (v := 1) hX dL_isSeconded_10 rfl (by decide) ?_
    refine gq_goto (tgt := 15) hX dL_isSeconded_11 rfl ?_
    refine gq_last hX dL_isSeconded_15 rfl hW1.lo (vp_in_nI (by decide) (by decide)) (hb.2 160 (by decide)) rfl ?_
    have hW2 := hW1.wlo hb (vp_updL K1.2.2.2.2.2.2.1 (nI 0).toNatClampNeg 1)
    refine gq_goto (tgt := 22) hX dL_isSeconded_16 rfl ?_
    refine gq_iconst (v := nI 0) hX dL_isSeconded_22 rfl (by decide) ?_
    exact gq_iret hX hQ dL_isSeconded_23 rfl ⟨rfl, _, hW2, K1, _, hR, rfl, by rw [if_neg h0]; rfl⟩

set_option maxRecDepth 100000 in
set_option maxHeartbeats 4000000 in
theorem wl_isSeconded_1 {E : Ev} {b : Nat → Nat} {K : Kt} {M : Hp} (hb : Lay E 162 b) (hW : Wd E b K M) {p0 : Int32} {R : Kt → Prop} {mc ms : Nat} (h1 : mc ≤ 23) (h2 : ms ≤ 3266) (h : CtX E mX4_isSeconded [.ref (b 0), .int p0] M NoR (ThC E b "java/util/NoSuchElementException" R) mc ms) : CtH E mL_isSeconded [.ref (b 0), .int p0, .ref (b 160)] M (RsC E b (.int (nI 1)) R) 23 3266 := by
  refine CtH.of gmL_isSeconded (ls := [.ref (b 0), .int p0, .ref (b 160), hole]) rfl rfl (Nat.le_of_ble_eq_true rfl) ?_
  intro X hX Q hQ
  refine gq_bud (nc1 := mc) (ns1 := ms) h1 h2 ?_
  refine gq_aload_n hX dL_isSeconded_0 rfl rfl rfl ?_
  refine gq_iconst (v := nI 0) hX dL_isSeconded_1 rfl (by decide) ?_
  refine gq_aload_n hX dL_isSeconded_2 rfl rfl rfl ?_
  refine gq_iload_n hX dL_isSeconded_3 rfl rfl rfl ?_
  refine gq_callVX (nc1 := 0) (ns1 := 0) hX dL_isSeconded_4 vL_89 h rfl hW.c0 rfl rfl (Nat.le_of_ble_eq_true rfl) ⟨(Nat.le_of_ble_eq_true rfl), (Nat.le_of_ble_eq_true rfl)⟩ rfl rfl (fun v M1 z => z.elim) ?_
  rintro y M1 ⟨rfl, K1, hW1, hR⟩
  refine gx_catch hX (nm := "java/util/NoSuchElementException") [] { startPc := 0, endPc := 16, handlerPc := 19, catchType := 56 } [] rfl (fun y hy => nomatch hy) (by decide) (by decide) (in3 187 rfl rfl) (nw3 194 rfl rfl) ?_
  intro qq
  refine gq_astore_n hX dL_isSeconded_19 rfl rfl (Nat.le_of_ble_eq_true rfl) rfl ?_
  refine gq_iconst (v := nI 1) hX dL_isSeconded_20 rfl (by decide) ?_
  exact gq_iret hX hQ dL_isSeconded_21 rfl ⟨rfl, K1, hW1, hR⟩

set_option maxRecDepth 100000 in
set_option maxHeartbeats 4000000 in
theorem wl_seconderOf_ok {E : Ev} {b : Nat → Nat} {K : Kt} {M : Hp} (hb : Lay E 162 b) (hW : Wd E b K M) {p0 : Int32} {r : Int32} {R : Kt → Prop} {mc ms : Nat} (h1 : mc ≤ 23) (h2 : ms ≤ 3266) (h : Ct E mX4_seconderOf [.ref (b 0), .int p0] M (RsC E b (.int r) R) mc ms) : CtH E mL_seconderOf [.ref (b 0), .int p0, .ref (b 160)] M (RsC E b (.int (nI 0)) (LoR R r.toInt64)) 23 3266 := by
  refine CtH.of gmL_seconderOf (ls := [.ref (b 0), .int p0, .ref (b 160), hole]) rfl rfl (Nat.le_of_ble_eq_true rfl) ?_
  intro X hX Q hQ
  refine gq_bud (nc1 := mc) (ns1 := ms) h1 h2 ?_
  refine gq_aload_n hX dL_seconderOf_0 rfl rfl rfl ?_
  refine gq_iconst (v := nI 0) hX dL_seconderOf_1 rfl (by decide) ?_
  refine gq_aload_n hX dL_seconderOf_2 rfl rfl rfl ?_
  refine gq_iload_n hX dL_seconderOf_3 rfl rfl rfl ?_
  refine gq_callV (nc1 := 0) (ns1 := 0) hX dL_seconderOf_4 vL_92 h rfl hW.c0 rfl rfl (Nat.le_of_ble_eq_true rfl) ⟨(Nat.le_of_ble_eq_true rfl), (Nat.le_of_ble_eq_true rfl)⟩ rfl rfl ?_
  rintro v M1 ⟨rfl, K1, hW1, hR⟩
  refine gq_i2l hX dL_seconderOf_7 rfl ?_
  refine gq_last hX dL_seconderOf_8 rfl hW1.lo (vp_in_nI (by decide) (by decide)) (hb.2 160 (by decide)) rfl ?_
  have hW2 := hW1.wlo hb (vp_updL K1.2.2.2.2.2.2.1 (nI 0).toNatClampNeg r.toInt64)
  refine gq_goto (tgt := 18) hX dL_seconderOf_9 rfl ?_
  refine gq_iconst (v := nI 0) hX dL_seconderOf_18 rfl (by decide) ?_
  exact gq_iret hX hQ dL_seconderOf_19 rfl ⟨rfl, _, hW2, K1, _, hR, rfl, rfl⟩

set_option maxRecDepth 100000 in
set_option maxHeartbeats 4000000 in
theorem wl_seconderOf_1 {E : Ev} {b : Nat → Nat} {K : Kt} {M : Hp} (hb : Lay E 162 b) (hW : Wd E b K M) {p0 : Int32} {R : Kt → Prop} {mc ms : Nat} (h1 : mc ≤ 23) (h2 : ms ≤ 3266) (h : CtX E mX4_seconderOf [.ref (b 0), .int p0] M NoR (ThC E b "java/util/NoSuchElementException" R) mc ms) : CtH E mL_seconderOf [.ref (b 0), .int p0, .ref (b 160)] M (RsC E b (.int (nI 1)) R) 23 3266 := by
  refine CtH.of gmL_seconderOf (ls := [.ref (b 0), .int p0, .ref (b 160), hole]) rfl rfl (Nat.le_of_ble_eq_true rfl) ?_
  intro X hX Q hQ
  refine gq_bud (nc1 := mc) (ns1 := ms) h1 h2 ?_
  refine gq_aload_n hX dL_seconderOf_0 rfl rfl rfl ?_
  refine gq_iconst (v := nI 0) hX dL_seconderOf_1 rfl (by decide) ?_
  refine gq_aload_n hX dL_seconderOf_2 rfl rfl rfl ?_
  refine gq_iload_n hX dL_seconderOf_3 rfl rfl rfl ?_
  refine gq_callVX (nc1 := 0) (ns1 := 0) hX dL_seconderOf_4 vL_92 h rfl hW.c0 rfl rfl (Nat.le_of_ble_eq_true rfl) ⟨(Nat.le_of_ble_eq_true rfl), (Nat.le_of_ble_eq_true rfl)⟩ rfl rfl (fun v M1 z => z.elim) ?_
  rintro y M1 ⟨rfl, K1, hW1, hR⟩
  refine gx_catch hX (nm := "java/util/NoSuchElementException") [] { startPc := 0, endPc := 9, handlerPc := 12, catchType := 56 } [{ startPc := 0, endPc := 9, handlerPc := 15, catchType := 15 }] rfl (fun y hy => nomatch hy) (by decide) (by decide) (in3 187 rfl rfl) (nw3 194 rfl rfl) ?_
  intro qq
  refine gq_astore_n hX dL_seconderOf_12 rfl rfl (Nat.le_of_ble_eq_true rfl) rfl ?_
  refine gq_iconst (v := nI 1) hX dL_seconderOf_13 rfl (by decide) ?_
  exact gq_iret hX hQ dL_seconderOf_14 rfl ⟨rfl, K1, hW1, hR⟩

set_option maxRecDepth 100000 in
set_option maxHeartbeats 4000000 in
theorem wl_seconderOf_2 {E : Ev} {b : Nat → Nat} {K : Kt} {M : Hp} (hb : Lay E 162 b) (hW : Wd E b K M) {p0 : Int32} {R : Kt → Prop} {mc ms : Nat} (h1 : mc ≤ 23) (h2 : ms ≤ 3266) (h : CtX E mX4_seconderOf [.ref (b 0), .int p0] M NoR (ThC E b "java/lang/IllegalStateException" R) mc ms) : CtH E mL_seconderOf [.ref (b 0), .int p0, .ref (b 160)] M (RsC E b (.int (nI 2)) R) 23 3266 := by
  refine CtH.of gmL_seconderOf (ls := [.ref (b 0), .int p0, .ref (b 160), hole]) rfl rfl (Nat.le_of_ble_eq_true rfl) ?_
  intro X hX Q hQ
  refine gq_bud (nc1 := mc) (ns1 := ms) h1 h2 ?_
  refine gq_aload_n hX dL_seconderOf_0 rfl rfl rfl ?_
  refine gq_iconst (v := nI 0) hX dL_seconderOf_1 rfl (by decide) ?_
  refine gq_aload_n hX dL_seconderOf_2 rfl rfl rfl ?_
  refine gq_iload_n hX dL_seconderOf_3 rfl rfl rfl ?_
  refine gq_callVX (nc1 := 0) (ns1 := 0) hX dL_seconderOf_4 vL_92 h rfl hW.c0 rfl rfl (Nat.le_of_ble_eq_true rfl) ⟨(Nat.le_of_ble_eq_true rfl), (Nat.le_of_ble_eq_true rfl)⟩ rfl rfl (fun v M1 z => z.elim) ?_
  rintro y M1 ⟨rfl, K1, hW1, hR⟩
  refine gx_catch hX (nm := "java/lang/IllegalStateException") [{ startPc := 0, endPc := 9, handlerPc := 12, catchType := 56 }] { startPc := 0, endPc := 9, handlerPc := 15, catchType := 15 } [] rfl (fun y hy => by
      rcases List.mem_cons.mp hy with rfl | hy
      · exact ⟨by decide, _, in3 187 rfl rfl, by decide⟩
      exact nomatch hy) (by decide) (by decide) (in2 238 rfl rfl) (nw3 10 rfl rfl) ?_
  intro qq
  refine gq_astore_n hX dL_seconderOf_15 rfl rfl (Nat.le_of_ble_eq_true rfl) rfl ?_
  refine gq_iconst (v := nI 2) hX dL_seconderOf_16 rfl (by decide) ?_
  exact gq_iret hX hQ dL_seconderOf_17 rfl ⟨rfl, K1, hW1, hR⟩

set_option maxRecDepth 100000 in
set_option maxHeartbeats 4000000 in
theorem wl_isTabled_ok {E : Ev} {b : Nat → Nat} {K : Kt} {M : Hp} (hb : Lay E 162 b) (hW : Wd E b K M) {p0 : Int32} {r : Int32} {R : Kt → Prop} {mc ms : Nat} (h1 : mc ≤ 23) (h2 : ms ≤ 3266) (h : Ct E mX4_isTabled [.ref (b 0), .int p0] M (RsC E b (.int r) R) mc ms) : CtH E mL_isTabled [.ref (b 0), .int p0, .ref (b 160)] M (RsC E b (.int (nI 0)) (LoR R (if r = 0 then 0 else 1))) 23 3266 := by
  refine CtH.of gmL_isTabled (ls := [.ref (b 0), .int p0, .ref (b 160), hole]) rfl rfl (Nat.le_of_ble_eq_true rfl) ?_
  intro X hX Q hQ
  refine gq_bud (nc1 := mc) (ns1 := ms) h1 h2 ?_
  refine gq_aload_n hX dL_isTabled_0 rfl rfl rfl ?_
  refine gq_iconst (v := nI 0) hX dL_isTabled_1 rfl (by decide) ?_
  refine gq_aload_n hX dL_isTabled_2 rfl rfl rfl ?_
  refine gq_iload_n hX dL_isTabled_3 rfl rfl rfl ?_
  refine gq_callV (nc1 := 0) (ns1 := 0) hX dL_isTabled_4 vL_95 h rfl hW.c0 rfl rfl (Nat.le_of_ble_eq_true rfl) ⟨(Nat.le_of_ble_eq_true rfl), (Nat.le_of_ble_eq_true rfl)⟩ rfl rfl ?_
  rintro v M1 ⟨rfl, K1, hW1, hR⟩
  by_cases h0 : r = 0
  · refine gq_if_eqT (tgt := 14) hX dL_isTabled_7 rfl h0 ?_
    refine gq_lconst (v := 0) hX dL_isTabled_14 rfl (by decide) ?_
    refine gq_last hX dL_isTabled_15 rfl hW1.lo (vp_in_nI (by decide) (by decide)) (hb.2 160 (by decide)) rfl ?_
    have hW2 := hW1.wlo hb (vp_updL K1.2.2.2.2.2.2.1 (nI 0).toNatClampNeg 0)
    refine gq_goto (tgt := 22) hX dL_isTabled_16 rfl ?_
    refine gq_iconst (v := nI 0) hX dL_isTabled_22 rfl (by decide) ?_
    exact gq_iret hX hQ dL_isTabled_23 rfl ⟨rfl, _, hW2, K1, _, hR, rfl, by rw [if_pos h0]; rfl⟩
  · refine gq_if_eqF (tgt := 14) hX dL_isTabled_7 rfl rfl h0 ?_
    refine gq_lconst (v := 1) hX dL_isTabled_10 rfl (by decide) ?_
    refine gq_goto (tgt := 15) hX dL_isTabled_11 rfl ?_
    refine gq_last hX dL_isTabled_15 rfl hW1.lo (vp_in_nI (by decide) (by decide)) (hb.2 160 (by decide)) rfl ?_
    have hW2 := hW1.wlo hb (vp_updL K1.2.2.2.2.2.2.1 (nI 0).toNatClampNeg 1)
    refine gq_goto (tgt := 22) hX dL_isTabled_16 rfl ?_
    refine gq_iconst (v := nI 0) hX dL_isTabled_22 rfl (by decide) ?_
    exact gq_iret hX hQ dL_isTabled_23 rfl ⟨rfl, _, hW2, K1, _, hR, rfl, by rw [if_neg h0]; rfl⟩

set_option maxRecDepth 100000 in
set_option maxHeartbeats 4000000 in
theorem wl_isTabled_1 {E : Ev} {b : Nat → Nat} {K : Kt} {M : Hp} (hb : Lay E 162 b) (hW : Wd E b K M) {p0 : Int32} {R : Kt → Prop} {mc ms : Nat} (h1 : mc ≤ 23) (h2 : ms ≤ 3266) (h : CtX E mX4_isTabled [.ref (b 0), .int p0] M NoR (ThC E b "java/util/NoSuchElementException" R) mc ms) : CtH E mL_isTabled [.ref (b 0), .int p0, .ref (b 160)] M (RsC E b (.int (nI 1)) R) 23 3266 := by
  refine CtH.of gmL_isTabled (ls := [.ref (b 0), .int p0, .ref (b 160), hole]) rfl rfl (Nat.le_of_ble_eq_true rfl) ?_
  intro X hX Q hQ
  refine gq_bud (nc1 := mc) (ns1 := ms) h1 h2 ?_
  refine gq_aload_n hX dL_isTabled_0 rfl rfl rfl ?_
  refine gq_iconst (v := nI 0) hX dL_isTabled_1 rfl (by decide) ?_
  refine gq_aload_n hX dL_isTabled_2 rfl rfl rfl ?_
  refine gq_iload_n hX dL_isTabled_3 rfl rfl rfl ?_
  refine gq_callVX (nc1 := 0) (ns1 := 0) hX dL_isTabled_4 vL_95 h rfl hW.c0 rfl rfl (Nat.le_of_ble_eq_true rfl) ⟨(Nat.le_of_ble_eq_true rfl), (Nat.le_of_ble_eq_true rfl)⟩ rfl rfl (fun v M1 z => z.elim) ?_
  rintro y M1 ⟨rfl, K1, hW1, hR⟩
  refine gx_catch hX (nm := "java/util/NoSuchElementException") [] { startPc := 0, endPc := 16, handlerPc := 19, catchType := 56 } [] rfl (fun y hy => nomatch hy) (by decide) (by decide) (in3 187 rfl rfl) (nw3 194 rfl rfl) ?_
  intro qq
  refine gq_astore_n hX dL_isTabled_19 rfl rfl (Nat.le_of_ble_eq_true rfl) rfl ?_
  refine gq_iconst (v := nI 1) hX dL_isTabled_20 rfl (by decide) ?_
  exact gq_iret hX hQ dL_isTabled_21 rfl ⟨rfl, K1, hW1, hR⟩

set_option maxRecDepth 100000 in
set_option maxHeartbeats 4000000 in
theorem wl_votesFor_ok {E : Ev} {b : Nat → Nat} {K : Kt} {M : Hp} (hb : Lay E 162 b) (hW : Wd E b K M) {p0 : Int32} {r : Int32} {R : Kt → Prop} {mc ms : Nat} (h1 : mc ≤ 23) (h2 : ms ≤ 3266) (h : Ct E mX4_votesFor [.ref (b 0), .int p0] M (RsC E b (.int r) R) mc ms) : CtH E mL_votesFor [.ref (b 0), .int p0, .ref (b 160)] M (RsC E b (.int (nI 0)) (LoR R r.toInt64)) 23 3266 := by
  refine CtH.of gmL_votesFor (ls := [.ref (b 0), .int p0, .ref (b 160), hole]) rfl rfl (Nat.le_of_ble_eq_true rfl) ?_
  intro X hX Q hQ
  refine gq_bud (nc1 := mc) (ns1 := ms) h1 h2 ?_
  refine gq_aload_n hX dL_votesFor_0 rfl rfl rfl ?_
  refine gq_iconst (v := nI 0) hX dL_votesFor_1 rfl (by decide) ?_
  refine gq_aload_n hX dL_votesFor_2 rfl rfl rfl ?_
  refine gq_iload_n hX dL_votesFor_3 rfl rfl rfl ?_
  refine gq_callV (nc1 := 0) (ns1 := 0) hX dL_votesFor_4 vL_98 h rfl hW.c0 rfl rfl (Nat.le_of_ble_eq_true rfl) ⟨(Nat.le_of_ble_eq_true rfl), (Nat.le_of_ble_eq_true rfl)⟩ rfl rfl ?_
  rintro v M1 ⟨rfl, K1, hW1, hR⟩
  refine gq_i2l hX dL_votesFor_7 rfl ?_
  refine gq_last hX dL_votesFor_8 rfl hW1.lo (vp_in_nI (by decide) (by decide)) (hb.2 160 (by decide)) rfl ?_
  have hW2 := hW1.wlo hb (vp_updL K1.2.2.2.2.2.2.1 (nI 0).toNatClampNeg r.toInt64)
  refine gq_goto (tgt := 15) hX dL_votesFor_9 rfl ?_
  refine gq_iconst (v := nI 0) hX dL_votesFor_15 rfl (by decide) ?_
  exact gq_iret hX hQ dL_votesFor_16 rfl ⟨rfl, _, hW2, K1, _, hR, rfl, rfl⟩

set_option maxRecDepth 100000 in
set_option maxHeartbeats 4000000 in
theorem wl_votesFor_1 {E : Ev} {b : Nat → Nat} {K : Kt} {M : Hp} (hb : Lay E 162 b) (hW : Wd E b K M) {p0 : Int32} {R : Kt → Prop} {mc ms : Nat} (h1 : mc ≤ 23) (h2 : ms ≤ 3266) (h : CtX E mX4_votesFor [.ref (b 0), .int p0] M NoR (ThC E b "java/util/NoSuchElementException" R) mc ms) : CtH E mL_votesFor [.ref (b 0), .int p0, .ref (b 160)] M (RsC E b (.int (nI 1)) R) 23 3266 := by
  refine CtH.of gmL_votesFor (ls := [.ref (b 0), .int p0, .ref (b 160), hole]) rfl rfl (Nat.le_of_ble_eq_true rfl) ?_
  intro X hX Q hQ
  refine gq_bud (nc1 := mc) (ns1 := ms) h1 h2 ?_
  refine gq_aload_n hX dL_votesFor_0 rfl rfl rfl ?_
  refine gq_iconst (v := nI 0) hX dL_votesFor_1 rfl (by decide) ?_
  refine gq_aload_n hX dL_votesFor_2 rfl rfl rfl ?_
  refine gq_iload_n hX dL_votesFor_3 rfl rfl rfl ?_
  refine gq_callVX (nc1 := 0) (ns1 := 0) hX dL_votesFor_4 vL_98 h rfl hW.c0 rfl rfl (Nat.le_of_ble_eq_true rfl) ⟨(Nat.le_of_ble_eq_true rfl), (Nat.le_of_ble_eq_true rfl)⟩ rfl rfl (fun v M1 z => z.elim) ?_
  rintro y M1 ⟨rfl, K1, hW1, hR⟩
  refine gx_catch hX (nm := "java/util/NoSuchElementException") [] { startPc := 0, endPc := 9, handlerPc := 12, catchType := 56 } [] rfl (fun y hy => nomatch hy) (by decide) (by decide) (in3 187 rfl rfl) (nw3 194 rfl rfl) ?_
  intro qq
  refine gq_astore_n hX dL_votesFor_12 rfl rfl (Nat.le_of_ble_eq_true rfl) rfl ?_
  refine gq_iconst (v := nI 1) hX dL_votesFor_13 rfl (by decide) ?_
  exact gq_iret hX hQ dL_votesFor_14 rfl ⟨rfl, K1, hW1, hR⟩

set_option maxRecDepth 100000 in
set_option maxHeartbeats 4000000 in
theorem wl_votesForByMember_ok {E : Ev} {b : Nat → Nat} {K : Kt} {M : Hp} (hb : Lay E 162 b) (hW : Wd E b K M) {p0 : Int32} {r : Int32} {R : Kt → Prop} {mc ms : Nat} (h1 : mc ≤ 23) (h2 : ms ≤ 3266) (h : Ct E mX4_votesForByMember [.ref (b 0), .int p0] M (RsC E b (.int r) R) mc ms) : CtH E mL_votesForByMember [.ref (b 0), .int p0, .ref (b 160)] M (RsC E b (.int (nI 0)) (LoR R r.toInt64)) 23 3266 := by
  refine CtH.of gmL_votesForByMember (ls := [.ref (b 0), .int p0, .ref (b 160), hole]) rfl rfl (Nat.le_of_ble_eq_true rfl) ?_
  intro X hX Q hQ
  refine gq_bud (nc1 := mc) (ns1 := ms) h1 h2 ?_
  refine gq_aload_n hX dL_votesForByMember_0 rfl rfl rfl ?_
  refine gq_iconst (v := nI 0) hX dL_votesForByMember_1 rfl (by decide) ?_
  refine gq_aload_n hX dL_votesForByMember_2 rfl rfl rfl ?_
  refine gq_iload_n hX dL_votesForByMember_3 rfl rfl rfl ?_
  refine gq_callV (nc1 := 0) (ns1 := 0) hX dL_votesForByMember_4 vL_101 h rfl hW.c0 rfl rfl (Nat.le_of_ble_eq_true rfl) ⟨(Nat.le_of_ble_eq_true rfl), (Nat.le_of_ble_eq_true rfl)⟩ rfl rfl ?_
  rintro v M1 ⟨rfl, K1, hW1, hR⟩
  refine gq_i2l hX dL_votesForByMember_7 rfl ?_
  refine gq_last hX dL_votesForByMember_8 rfl hW1.lo (vp_in_nI (by decide) (by decide)) (hb.2 160 (by decide)) rfl ?_
  have hW2 := hW1.wlo hb (vp_updL K1.2.2.2.2.2.2.1 (nI 0).toNatClampNeg r.toInt64)
  refine gq_goto (tgt := 15) hX dL_votesForByMember_9 rfl ?_
  refine gq_iconst (v := nI 0) hX dL_votesForByMember_15 rfl (by decide) ?_
  exact gq_iret hX hQ dL_votesForByMember_16 rfl ⟨rfl, _, hW2, K1, _, hR, rfl, rfl⟩

set_option maxRecDepth 100000 in
set_option maxHeartbeats 4000000 in
theorem wl_votesForByMember_1 {E : Ev} {b : Nat → Nat} {K : Kt} {M : Hp} (hb : Lay E 162 b) (hW : Wd E b K M) {p0 : Int32} {R : Kt → Prop} {mc ms : Nat} (h1 : mc ≤ 23) (h2 : ms ≤ 3266) (h : CtX E mX4_votesForByMember [.ref (b 0), .int p0] M NoR (ThC E b "java/util/NoSuchElementException" R) mc ms) : CtH E mL_votesForByMember [.ref (b 0), .int p0, .ref (b 160)] M (RsC E b (.int (nI 1)) R) 23 3266 := by
  refine CtH.of gmL_votesForByMember (ls := [.ref (b 0), .int p0, .ref (b 160), hole]) rfl rfl (Nat.le_of_ble_eq_true rfl) ?_
  intro X hX Q hQ
  refine gq_bud (nc1 := mc) (ns1 := ms) h1 h2 ?_
  refine gq_aload_n hX dL_votesForByMember_0 rfl rfl rfl ?_
  refine gq_iconst (v := nI 0) hX dL_votesForByMember_1 rfl (by decide) ?_
  refine gq_aload_n hX dL_votesForByMember_2 rfl rfl rfl ?_
  refine gq_iload_n hX dL_votesForByMember_3 rfl rfl rfl ?_
  refine gq_callVX (nc1 := 0) (ns1 := 0) hX dL_votesForByMember_4 vL_101 h rfl hW.c0 rfl rfl (Nat.le_of_ble_eq_true rfl) ⟨(Nat.le_of_ble_eq_true rfl), (Nat.le_of_ble_eq_true rfl)⟩ rfl rfl (fun v M1 z => z.elim) ?_
  rintro y M1 ⟨rfl, K1, hW1, hR⟩
  refine gx_catch hX (nm := "java/util/NoSuchElementException") [] { startPc := 0, endPc := 9, handlerPc := 12, catchType := 56 } [] rfl (fun y hy => nomatch hy) (by decide) (by decide) (in3 187 rfl rfl) (nw3 194 rfl rfl) ?_
  intro qq
  refine gq_astore_n hX dL_votesForByMember_12 rfl rfl (Nat.le_of_ble_eq_true rfl) rfl ?_
  refine gq_iconst (v := nI 1) hX dL_votesForByMember_13 rfl (by decide) ?_
  exact gq_iret hX hQ dL_votesForByMember_14 rfl ⟨rfl, K1, hW1, hR⟩

set_option maxRecDepth 100000 in
set_option maxHeartbeats 4000000 in
theorem wl_votesAgainst_ok {E : Ev} {b : Nat → Nat} {K : Kt} {M : Hp} (hb : Lay E 162 b) (hW : Wd E b K M) {p0 : Int32} {r : Int32} {R : Kt → Prop} {mc ms : Nat} (h1 : mc ≤ 23) (h2 : ms ≤ 3266) (h : Ct E mX4_votesAgainst [.ref (b 0), .int p0] M (RsC E b (.int r) R) mc ms) : CtH E mL_votesAgainst [.ref (b 0), .int p0, .ref (b 160)] M (RsC E b (.int (nI 0)) (LoR R r.toInt64)) 23 3266 := by
  refine CtH.of gmL_votesAgainst (ls := [.ref (b 0), .int p0, .ref (b 160), hole]) rfl rfl (Nat.le_of_ble_eq_true rfl) ?_
  intro X hX Q hQ
  refine gq_bud (nc1 := mc) (ns1 := ms) h1 h2 ?_
  refine gq_aload_n hX dL_votesAgainst_0 rfl rfl rfl ?_
  refine gq_iconst (v := nI 0) hX dL_votesAgainst_1 rfl (by decide) ?_
  refine gq_aload_n hX dL_votesAgainst_2 rfl rfl rfl ?_
  refine gq_iload_n hX dL_votesAgainst_3 rfl rfl rfl ?_
  refine gq_callV (nc1 := 0) (ns1 := 0) hX dL_votesAgainst_4 vL_104 h rfl hW.c0 rfl rfl (Nat.le_of_ble_eq_true rfl) ⟨(Nat.le_of_ble_eq_true rfl), (Nat.le_of_ble_eq_true rfl)⟩ rfl rfl ?_
  rintro v M1 ⟨rfl, K1, hW1, hR⟩
  refine gq_i2l hX dL_votesAgainst_7 rfl ?_
  refine gq_last hX dL_votesAgainst_8 rfl hW1.lo (vp_in_nI (by decide) (by decide)) (hb.2 160 (by decide)) rfl ?_
  have hW2 := hW1.wlo hb (vp_updL K1.2.2.2.2.2.2.1 (nI 0).toNatClampNeg r.toInt64)
  refine gq_goto (tgt := 15) hX dL_votesAgainst_9 rfl ?_
  refine gq_iconst (v := nI 0) hX dL_votesAgainst_15 rfl (by decide) ?_
  exact gq_iret hX hQ dL_votesAgainst_16 rfl ⟨rfl, _, hW2, K1, _, hR, rfl, rfl⟩

set_option maxRecDepth 100000 in
set_option maxHeartbeats 4000000 in
theorem wl_votesAgainst_1 {E : Ev} {b : Nat → Nat} {K : Kt} {M : Hp} (hb : Lay E 162 b) (hW : Wd E b K M) {p0 : Int32} {R : Kt → Prop} {mc ms : Nat} (h1 : mc ≤ 23) (h2 : ms ≤ 3266) (h : CtX E mX4_votesAgainst [.ref (b 0), .int p0] M NoR (ThC E b "java/util/NoSuchElementException" R) mc ms) : CtH E mL_votesAgainst [.ref (b 0), .int p0, .ref (b 160)] M (RsC E b (.int (nI 1)) R) 23 3266 := by
  refine CtH.of gmL_votesAgainst (ls := [.ref (b 0), .int p0, .ref (b 160), hole]) rfl rfl (Nat.le_of_ble_eq_true rfl) ?_
  intro X hX Q hQ
  refine gq_bud (nc1 := mc) (ns1 := ms) h1 h2 ?_
  refine gq_aload_n hX dL_votesAgainst_0 rfl rfl rfl ?_
  refine gq_iconst (v := nI 0) hX dL_votesAgainst_1 rfl (by decide) ?_
  refine gq_aload_n hX dL_votesAgainst_2 rfl rfl rfl ?_
  refine gq_iload_n hX dL_votesAgainst_3 rfl rfl rfl ?_
  refine gq_callVX (nc1 := 0) (ns1 := 0) hX dL_votesAgainst_4 vL_104 h rfl hW.c0 rfl rfl (Nat.le_of_ble_eq_true rfl) ⟨(Nat.le_of_ble_eq_true rfl), (Nat.le_of_ble_eq_true rfl)⟩ rfl rfl (fun v M1 z => z.elim) ?_
  rintro y M1 ⟨rfl, K1, hW1, hR⟩
  refine gx_catch hX (nm := "java/util/NoSuchElementException") [] { startPc := 0, endPc := 9, handlerPc := 12, catchType := 56 } [] rfl (fun y hy => nomatch hy) (by decide) (by decide) (in3 187 rfl rfl) (nw3 194 rfl rfl) ?_
  intro qq
  refine gq_astore_n hX dL_votesAgainst_12 rfl rfl (Nat.le_of_ble_eq_true rfl) rfl ?_
  refine gq_iconst (v := nI 1) hX dL_votesAgainst_13 rfl (by decide) ?_
  exact gq_iret hX hQ dL_votesAgainst_14 rfl ⟨rfl, K1, hW1, hR⟩

set_option maxRecDepth 100000 in
set_option maxHeartbeats 4000000 in
theorem wl_gust_ok {E : Ev} {b : Nat → Nat} {K : Kt} {M : Hp} (hb : Lay E 162 b) (hW : Wd E b K M) {p0 : Int32} {r : Int32} {R : Kt → Prop} {mc ms : Nat} (h1 : mc ≤ 23) (h2 : ms ≤ 3266) (h : Ct E mX4_gust [.ref (b 0), .int p0] M (RsC E b (.int r) R) mc ms) : CtH E mL_gust [.ref (b 0), .int p0, .ref (b 160)] M (RsC E b (.int (nI 0)) (LoR R r.toInt64)) 23 3266 := by
  refine CtH.of gmL_gust (ls := [.ref (b 0), .int p0, .ref (b 160), hole]) rfl rfl (Nat.le_of_ble_eq_true rfl) ?_
  intro X hX Q hQ
  refine gq_bud (nc1 := mc) (ns1 := ms) h1 h2 ?_
  refine gq_aload_n hX dL_gust_0 rfl rfl rfl ?_
  refine gq_iconst (v := nI 0) hX dL_gust_1 rfl (by decide) ?_
  refine gq_aload_n hX dL_gust_2 rfl rfl rfl ?_
  refine gq_iload_n hX dL_gust_3 rfl rfl rfl ?_
  refine gq_callV (nc1 := 0) (ns1 := 0) hX dL_gust_4 vL_107 h rfl hW.c0 rfl rfl (Nat.le_of_ble_eq_true rfl) ⟨(Nat.le_of_ble_eq_true rfl), (Nat.le_of_ble_eq_true rfl)⟩ rfl rfl ?_
  rintro v M1 ⟨rfl, K1, hW1, hR⟩
  refine gq_i2l hX dL_gust_7 rfl ?_
  refine gq_last hX dL_gust_8 rfl hW1.lo (vp_in_nI (by decide) (by decide)) (hb.2 160 (by decide)) rfl ?_
  have hW2 := hW1.wlo hb (vp_updL K1.2.2.2.2.2.2.1 (nI 0).toNatClampNeg r.toInt64)
  refine gq_goto (tgt := 15) hX dL_gust_9 rfl ?_
  refine gq_iconst (v := nI 0) hX dL_gust_15 rfl (by decide) ?_
  exact gq_iret hX hQ dL_gust_16 rfl ⟨rfl, _, hW2, K1, _, hR, rfl, rfl⟩

set_option maxRecDepth 100000 in
set_option maxHeartbeats 4000000 in
theorem wl_gust_1 {E : Ev} {b : Nat → Nat} {K : Kt} {M : Hp} (hb : Lay E 162 b) (hW : Wd E b K M) {p0 : Int32} {R : Kt → Prop} {mc ms : Nat} (h1 : mc ≤ 23) (h2 : ms ≤ 3266) (h : CtX E mX4_gust [.ref (b 0), .int p0] M NoR (ThC E b "java/lang/IllegalArgumentException" R) mc ms) : CtH E mL_gust [.ref (b 0), .int p0, .ref (b 160)] M (RsC E b (.int (nI 1)) R) 23 3266 := by
  refine CtH.of gmL_gust (ls := [.ref (b 0), .int p0, .ref (b 160), hole]) rfl rfl (Nat.le_of_ble_eq_true rfl) ?_
  intro X hX Q hQ
  refine gq_bud (nc1 := mc) (ns1 := ms) h1 h2 ?_
  refine gq_aload_n hX dL_gust_0 rfl rfl rfl ?_
  refine gq_iconst (v := nI 0) hX dL_gust_1 rfl (by decide) ?_
  refine gq_aload_n hX dL_gust_2 rfl rfl rfl ?_
  refine gq_iload_n hX dL_gust_3 rfl rfl rfl ?_
  refine gq_callVX (nc1 := 0) (ns1 := 0) hX dL_gust_4 vL_107 h rfl hW.c0 rfl rfl (Nat.le_of_ble_eq_true rfl) ⟨(Nat.le_of_ble_eq_true rfl), (Nat.le_of_ble_eq_true rfl)⟩ rfl rfl (fun v M1 z => z.elim) ?_
  rintro y M1 ⟨rfl, K1, hW1, hR⟩
  refine gx_catch hX (nm := "java/lang/IllegalArgumentException") [] { startPc := 0, endPc := 9, handlerPc := 12, catchType := 13 } [] rfl (fun y hy => nomatch hy) (by decide) (by decide) (in2 237 rfl rfl) (nw2 173 rfl rfl) ?_
  intro qq
  refine gq_astore_n hX dL_gust_12 rfl rfl (Nat.le_of_ble_eq_true rfl) rfl ?_
  refine gq_iconst (v := nI 1) hX dL_gust_13 rfl (by decide) ?_
  exact gq_iret hX hQ dL_gust_14 rfl ⟨rfl, K1, hW1, hR⟩

set_option maxRecDepth 100000 in
set_option maxHeartbeats 4000000 in
theorem wl_pass_ok {E : Ev} {b : Nat → Nat} {K : Kt} {M : Hp} (hb : Lay E 162 b) (hW : Wd E b K M) {p0 : Int32} {r : Int32} {R : Kt → Prop} {mc ms : Nat} (h1 : mc ≤ 23) (h2 : ms ≤ 3266) (h : Ct E mX4_pass [.ref (b 0), .int p0] M (RsC E b (.int r) R) mc ms) : CtH E mL_pass [.ref (b 0), .int p0, .ref (b 160)] M (RsC E b (.int (nI 0)) (LoR R r.toInt64)) 23 3266 := by
  refine CtH.of gmL_pass (ls := [.ref (b 0), .int p0, .ref (b 160), hole]) rfl rfl (Nat.le_of_ble_eq_true rfl) ?_
  intro X hX Q hQ
  refine gq_bud (nc1 := mc) (ns1 := ms) h1 h2 ?_
  refine gq_aload_n hX dL_pass_0 rfl rfl rfl ?_
  refine gq_iconst (v := nI 0) hX dL_pass_1 rfl (by decide) ?_
  refine gq_aload_n hX dL_pass_2 rfl rfl rfl ?_
  refine gq_iload_n hX dL_pass_3 rfl rfl rfl ?_
  refine gq_callV (nc1 := 0) (ns1 := 0) hX dL_pass_4 vL_110 h rfl hW.c0 rfl rfl (Nat.le_of_ble_eq_true rfl) ⟨(Nat.le_of_ble_eq_true rfl), (Nat.le_of_ble_eq_true rfl)⟩ rfl rfl ?_
  rintro v M1 ⟨rfl, K1, hW1, hR⟩
  refine gq_i2l hX dL_pass_7 rfl ?_
  refine gq_last hX dL_pass_8 rfl hW1.lo (vp_in_nI (by decide) (by decide)) (hb.2 160 (by decide)) rfl ?_
  have hW2 := hW1.wlo hb (vp_updL K1.2.2.2.2.2.2.1 (nI 0).toNatClampNeg r.toInt64)
  refine gq_goto (tgt := 15) hX dL_pass_9 rfl ?_
  refine gq_iconst (v := nI 0) hX dL_pass_15 rfl (by decide) ?_
  exact gq_iret hX hQ dL_pass_16 rfl ⟨rfl, _, hW2, K1, _, hR, rfl, rfl⟩

set_option maxRecDepth 100000 in
set_option maxHeartbeats 4000000 in
theorem wl_pass_1 {E : Ev} {b : Nat → Nat} {K : Kt} {M : Hp} (hb : Lay E 162 b) (hW : Wd E b K M) {p0 : Int32} {R : Kt → Prop} {mc ms : Nat} (h1 : mc ≤ 23) (h2 : ms ≤ 3266) (h : CtX E mX4_pass [.ref (b 0), .int p0] M NoR (ThC E b "java/lang/IllegalArgumentException" R) mc ms) : CtH E mL_pass [.ref (b 0), .int p0, .ref (b 160)] M (RsC E b (.int (nI 1)) R) 23 3266 := by
  refine CtH.of gmL_pass (ls := [.ref (b 0), .int p0, .ref (b 160), hole]) rfl rfl (Nat.le_of_ble_eq_true rfl) ?_
  intro X hX Q hQ
  refine gq_bud (nc1 := mc) (ns1 := ms) h1 h2 ?_
  refine gq_aload_n hX dL_pass_0 rfl rfl rfl ?_
  refine gq_iconst (v := nI 0) hX dL_pass_1 rfl (by decide) ?_
  refine gq_aload_n hX dL_pass_2 rfl rfl rfl ?_
  refine gq_iload_n hX dL_pass_3 rfl rfl rfl ?_
  refine gq_callVX (nc1 := 0) (ns1 := 0) hX dL_pass_4 vL_110 h rfl hW.c0 rfl rfl (Nat.le_of_ble_eq_true rfl) ⟨(Nat.le_of_ble_eq_true rfl), (Nat.le_of_ble_eq_true rfl)⟩ rfl rfl (fun v M1 z => z.elim) ?_
  rintro y M1 ⟨rfl, K1, hW1, hR⟩
  refine gx_catch hX (nm := "java/lang/IllegalArgumentException") [] { startPc := 0, endPc := 9, handlerPc := 12, catchType := 13 } [] rfl (fun y hy => nomatch hy) (by decide) (by decide) (in2 237 rfl rfl) (nw2 173 rfl rfl) ?_
  intro qq
  refine gq_astore_n hX dL_pass_12 rfl rfl (Nat.le_of_ble_eq_true rfl) rfl ?_
  refine gq_iconst (v := nI 1) hX dL_pass_13 rfl (by decide) ?_
  exact gq_iret hX hQ dL_pass_14 rfl ⟨rfl, K1, hW1, hR⟩

set_option maxRecDepth 100000 in
set_option maxHeartbeats 4000000 in
theorem wl_arrearsAfter_ok {E : Ev} {b : Nat → Nat} {K : Kt} {M : Hp} (hb : Lay E 162 b) (hW : Wd E b K M) {p0 : Int32} {p1 : Int32} {r : Int32} {R : Kt → Prop} {mc ms : Nat} (h1 : mc ≤ 23) (h2 : ms ≤ 3266) (h : Ct E mX4_arrearsAfter [.ref (b 0), .int p0, .int p1] M (RsC E b (.int r) R) mc ms) : CtH E mL_arrearsAfter [.ref (b 0), .int p0, .int p1, .ref (b 160)] M (RsC E b (.int (nI 0)) (LoR R r.toInt64)) 23 3266 := by
  refine CtH.of gmL_arrearsAfter (ls := [.ref (b 0), .int p0, .int p1, .ref (b 160), hole]) rfl rfl (Nat.le_of_ble_eq_true rfl) ?_
  intro X hX Q hQ
  refine gq_bud (nc1 := mc) (ns1 := ms) h1 h2 ?_
  refine gq_aload_n hX dL_arrearsAfter_0 rfl rfl rfl ?_
  refine gq_iconst (v := nI 0) hX dL_arrearsAfter_1 rfl (by decide) ?_
  refine gq_aload_n hX dL_arrearsAfter_2 rfl rfl rfl ?_
  refine gq_iload_n hX dL_arrearsAfter_3 rfl rfl rfl ?_
  refine gq_iload_n hX dL_arrearsAfter_4 rfl rfl rfl ?_
  refine gq_callV (nc1 := 0) (ns1 := 0) hX dL_arrearsAfter_5 vL_113 h rfl hW.c0 rfl rfl (Nat.le_of_ble_eq_true rfl) ⟨(Nat.le_of_ble_eq_true rfl), (Nat.le_of_ble_eq_true rfl)⟩ rfl rfl ?_
  rintro v M1 ⟨rfl, K1, hW1, hR⟩
  refine gq_i2l hX dL_arrearsAfter_8 rfl ?_
  refine gq_last hX dL_arrearsAfter_9 rfl hW1.lo (vp_in_nI (by decide) (by decide)) (hb.2 160 (by decide)) rfl ?_
  have hW2 := hW1.wlo hb (vp_updL K1.2.2.2.2.2.2.1 (nI 0).toNatClampNeg r.toInt64)
  refine gq_goto (tgt := 21) hX dL_arrearsAfter_10 rfl ?_
  refine gq_iconst (v := nI 0) hX dL_arrearsAfter_21 rfl (by decide) ?_
  exact gq_iret hX hQ dL_arrearsAfter_22 rfl ⟨rfl, _, hW2, K1, _, hR, rfl, rfl⟩

set_option maxRecDepth 100000 in
set_option maxHeartbeats 4000000 in
theorem wl_arrearsAfter_1 {E : Ev} {b : Nat → Nat} {K : Kt} {M : Hp} (hb : Lay E 162 b) (hW : Wd E b K M) {p0 : Int32} {p1 : Int32} {R : Kt → Prop} {mc ms : Nat} (h1 : mc ≤ 23) (h2 : ms ≤ 3266) (h : CtX E mX4_arrearsAfter [.ref (b 0), .int p0, .int p1] M NoR (ThC E b "java/lang/IndexOutOfBoundsException" R) mc ms) : CtH E mL_arrearsAfter [.ref (b 0), .int p0, .int p1, .ref (b 160)] M (RsC E b (.int (nI 1)) R) 23 3266 := by
  refine CtH.of gmL_arrearsAfter (ls := [.ref (b 0), .int p0, .int p1, .ref (b 160), hole]) rfl rfl (Nat.le_of_ble_eq_true rfl) ?_
  intro X hX Q hQ
  refine gq_bud (nc1 := mc) (ns1 := ms) h1 h2 ?_
  refine gq_aload_n hX dL_arrearsAfter_0 rfl rfl rfl ?_
  refine gq_iconst (v := nI 0) hX dL_arrearsAfter_1 rfl (by decide) ?_
  refine gq_aload_n hX dL_arrearsAfter_2 rfl rfl rfl ?_
  refine gq_iload_n hX dL_arrearsAfter_3 rfl rfl rfl ?_
  refine gq_iload_n hX dL_arrearsAfter_4 rfl rfl rfl ?_
  refine gq_callVX (nc1 := 0) (ns1 := 0) hX dL_arrearsAfter_5 vL_113 h rfl hW.c0 rfl rfl (Nat.le_of_ble_eq_true rfl) ⟨(Nat.le_of_ble_eq_true rfl), (Nat.le_of_ble_eq_true rfl)⟩ rfl rfl (fun v M1 z => z.elim) ?_
  rintro y M1 ⟨rfl, K1, hW1, hR⟩
  refine gx_catch hX (nm := "java/lang/IndexOutOfBoundsException") [] { startPc := 0, endPc := 10, handlerPc := 13, catchType := 24 } [{ startPc := 0, endPc := 10, handlerPc := 17, catchType := 13 }] rfl (fun y hy => nomatch hy) (by decide) (by decide) (in3 54 rfl rfl) (nw2 101 rfl rfl) ?_
  intro qq
  refine gq_astore hX dL_arrearsAfter_13 rfl (Nat.le_of_ble_eq_true rfl) rfl ?_
  refine gq_iconst (v := nI 1) hX dL_arrearsAfter_15 rfl (by decide) ?_
  exact gq_iret hX hQ dL_arrearsAfter_16 rfl ⟨rfl, K1, hW1, hR⟩

set_option maxRecDepth 100000 in
set_option maxHeartbeats 4000000 in
theorem wl_arrearsAfter_2 {E : Ev} {b : Nat → Nat} {K : Kt} {M : Hp} (hb : Lay E 162 b) (hW : Wd E b K M) {p0 : Int32} {p1 : Int32} {R : Kt → Prop} {mc ms : Nat} (h1 : mc ≤ 23) (h2 : ms ≤ 3266) (h : CtX E mX4_arrearsAfter [.ref (b 0), .int p0, .int p1] M NoR (ThC E b "java/lang/IllegalArgumentException" R) mc ms) : CtH E mL_arrearsAfter [.ref (b 0), .int p0, .int p1, .ref (b 160)] M (RsC E b (.int (nI 2)) R) 23 3266 := by
  refine CtH.of gmL_arrearsAfter (ls := [.ref (b 0), .int p0, .int p1, .ref (b 160), hole]) rfl rfl (Nat.le_of_ble_eq_true rfl) ?_
  intro X hX Q hQ
  refine gq_bud (nc1 := mc) (ns1 := ms) h1 h2 ?_
  refine gq_aload_n hX dL_arrearsAfter_0 rfl rfl rfl ?_
  refine gq_iconst (v := nI 0) hX dL_arrearsAfter_1 rfl (by decide) ?_
  refine gq_aload_n hX dL_arrearsAfter_2 rfl rfl rfl ?_
  refine gq_iload_n hX dL_arrearsAfter_3 rfl rfl rfl ?_
  refine gq_iload_n hX dL_arrearsAfter_4 rfl rfl rfl ?_
  refine gq_callVX (nc1 := 0) (ns1 := 0) hX dL_arrearsAfter_5 vL_113 h rfl hW.c0 rfl rfl (Nat.le_of_ble_eq_true rfl) ⟨(Nat.le_of_ble_eq_true rfl), (Nat.le_of_ble_eq_true rfl)⟩ rfl rfl (fun v M1 z => z.elim) ?_
  rintro y M1 ⟨rfl, K1, hW1, hR⟩
  refine gx_catch hX (nm := "java/lang/IllegalArgumentException") [{ startPc := 0, endPc := 10, handlerPc := 13, catchType := 24 }] { startPc := 0, endPc := 10, handlerPc := 17, catchType := 13 } [] rfl (fun y hy => by
      rcases List.mem_cons.mp hy with rfl | hy
      · exact ⟨by decide, _, in3 54 rfl rfl, by decide⟩
      exact nomatch hy) (by decide) (by decide) (in2 237 rfl rfl) (nw2 173 rfl rfl) ?_
  intro qq
  refine gq_astore hX dL_arrearsAfter_17 rfl (Nat.le_of_ble_eq_true rfl) rfl ?_
  refine gq_iconst (v := nI 2) hX dL_arrearsAfter_19 rfl (by decide) ?_
  exact gq_iret hX hQ dL_arrearsAfter_20 rfl ⟨rfl, K1, hW1, hR⟩

set_option maxRecDepth 100000 in
set_option maxHeartbeats 4000000 in
theorem wl_arrearsAfterByRate_ok {E : Ev} {b : Nat → Nat} {K : Kt} {M : Hp} (hb : Lay E 162 b) (hW : Wd E b K M) {p0 : Int32} {p1 : Int32} {r : Int32} {R : Kt → Prop} {mc ms : Nat} (h1 : mc ≤ 23) (h2 : ms ≤ 3266) (h : Ct E mX4_arrearsAfterByRate [.ref (b 0), .int p0, .int p1] M (RsC E b (.int r) R) mc ms) : CtH E mL_arrearsAfterByRate [.ref (b 0), .int p0, .int p1, .ref (b 160)] M (RsC E b (.int (nI 0)) (LoR R r.toInt64)) 23 3266 := by
  refine CtH.of gmL_arrearsAfterByRate (ls := [.ref (b 0), .int p0, .int p1, .ref (b 160), hole]) rfl rfl (Nat.le_of_ble_eq_true rfl) ?_
  intro X hX Q hQ
  refine gq_bud (nc1 := mc) (ns1 := ms) h1 h2 ?_
  refine gq_aload_n hX dL_arrearsAfterByRate_0 rfl rfl rfl ?_
  refine gq_iconst (v := nI 0) hX dL_arrearsAfterByRate_1 rfl (by decide) ?_
  refine gq_aload_n hX dL_arrearsAfterByRate_2 rfl rfl rfl ?_
  refine gq_iload_n hX dL_arrearsAfterByRate_3 rfl rfl rfl ?_
  refine gq_iload_n hX dL_arrearsAfterByRate_4 rfl rfl rfl ?_
  refine gq_callV (nc1 := 0) (ns1 := 0) hX dL_arrearsAfterByRate_5 vL_116 h rfl hW.c0 rfl rfl (Nat.le_of_ble_eq_true rfl) ⟨(Nat.le_of_ble_eq_true rfl), (Nat.le_of_ble_eq_true rfl)⟩ rfl rfl ?_
  rintro v M1 ⟨rfl, K1, hW1, hR⟩
  refine gq_i2l hX dL_arrearsAfterByRate_8 rfl ?_
  refine gq_last hX dL_arrearsAfterByRate_9 rfl hW1.lo (vp_in_nI (by decide) (by decide)) (hb.2 160 (by decide)) rfl ?_
  have hW2 := hW1.wlo hb (vp_updL K1.2.2.2.2.2.2.1 (nI 0).toNatClampNeg r.toInt64)
  refine gq_goto (tgt := 21) hX dL_arrearsAfterByRate_10 rfl ?_
  refine gq_iconst (v := nI 0) hX dL_arrearsAfterByRate_21 rfl (by decide) ?_
  exact gq_iret hX hQ dL_arrearsAfterByRate_22 rfl ⟨rfl, _, hW2, K1, _, hR, rfl, rfl⟩

set_option maxRecDepth 100000 in
set_option maxHeartbeats 4000000 in
theorem wl_arrearsAfterByRate_1 {E : Ev} {b : Nat → Nat} {K : Kt} {M : Hp} (hb : Lay E 162 b) (hW : Wd E b K M) {p0 : Int32} {p1 : Int32} {R : Kt → Prop} {mc ms : Nat} (h1 : mc ≤ 23) (h2 : ms ≤ 3266) (h : CtX E mX4_arrearsAfterByRate [.ref (b 0), .int p0, .int p1] M NoR (ThC E b "java/lang/IndexOutOfBoundsException" R) mc ms) : CtH E mL_arrearsAfterByRate [.ref (b 0), .int p0, .int p1, .ref (b 160)] M (RsC E b (.int (nI 1)) R) 23 3266 := by
  refine CtH.of gmL_arrearsAfterByRate (ls := [.ref (b 0), .int p0, .int p1, .ref (b 160), hole]) rfl rfl (Nat.le_of_ble_eq_true rfl) ?_
  intro X hX Q hQ
  refine gq_bud (nc1 := mc) (ns1 := ms) h1 h2 ?_
  refine gq_aload_n hX dL_arrearsAfterByRate_0 rfl rfl rfl ?_
  refine gq_iconst (v := nI 0) hX dL_arrearsAfterByRate_1 rfl (by decide) ?_
  refine gq_aload_n hX dL_arrearsAfterByRate_2 rfl rfl rfl ?_
  refine gq_iload_n hX dL_arrearsAfterByRate_3 rfl rfl rfl ?_
  refine gq_iload_n hX dL_arrearsAfterByRate_4 rfl rfl rfl ?_
  refine gq_callVX (nc1 := 0) (ns1 := 0) hX dL_arrearsAfterByRate_5 vL_116 h rfl hW.c0 rfl rfl (Nat.le_of_ble_eq_true rfl) ⟨(Nat.le_of_ble_eq_true rfl), (Nat.le_of_ble_eq_true rfl)⟩ rfl rfl (fun v M1 z => z.elim) ?_
  rintro y M1 ⟨rfl, K1, hW1, hR⟩
  refine gx_catch hX (nm := "java/lang/IndexOutOfBoundsException") [] { startPc := 0, endPc := 10, handlerPc := 13, catchType := 24 } [{ startPc := 0, endPc := 10, handlerPc := 17, catchType := 13 }] rfl (fun y hy => nomatch hy) (by decide) (by decide) (in3 54 rfl rfl) (nw2 101 rfl rfl) ?_
  intro qq
  refine gq_astore hX dL_arrearsAfterByRate_13 rfl (Nat.le_of_ble_eq_true rfl) rfl ?_
  refine gq_iconst (v := nI 1) hX dL_arrearsAfterByRate_15 rfl (by decide) ?_
  exact gq_iret hX hQ dL_arrearsAfterByRate_16 rfl ⟨rfl, K1, hW1, hR⟩

set_option maxRecDepth 100000 in
set_option maxHeartbeats 4000000 in
theorem wl_arrearsAfterByRate_2 {E : Ev} {b : Nat → Nat} {K : Kt} {M : Hp} (hb : Lay E 162 b) (hW : Wd E b K M) {p0 : Int32} {p1 : Int32} {R : Kt → Prop} {mc ms : Nat} (h1 : mc ≤ 23) (h2 : ms ≤ 3266) (h : CtX E mX4_arrearsAfterByRate [.ref (b 0), .int p0, .int p1] M NoR (ThC E b "java/lang/IllegalArgumentException" R) mc ms) : CtH E mL_arrearsAfterByRate [.ref (b 0), .int p0, .int p1, .ref (b 160)] M (RsC E b (.int (nI 2)) R) 23 3266 := by
  refine CtH.of gmL_arrearsAfterByRate (ls := [.ref (b 0), .int p0, .int p1, .ref (b 160), hole]) rfl rfl (Nat.le_of_ble_eq_true rfl) ?_
  intro X hX Q hQ
  refine gq_bud (nc1 := mc) (ns1 := ms) h1 h2 ?_
  refine gq_aload_n hX dL_arrearsAfterByRate_0 rfl rfl rfl ?_
  refine gq_iconst (v := nI 0) hX dL_arrearsAfterByRate_1 rfl (by decide) ?_
  refine gq_aload_n hX dL_arrearsAfterByRate_2 rfl rfl rfl ?_
  refine gq_iload_n hX dL_arrearsAfterByRate_3 rfl rfl rfl ?_
  refine gq_iload_n hX dL_arrearsAfterByRate_4 rfl rfl rfl ?_
  refine gq_callVX (nc1 := 0) (ns1 := 0) hX dL_arrearsAfterByRate_5 vL_116 h rfl hW.c0 rfl rfl (Nat.le_of_ble_eq_true rfl) ⟨(Nat.le_of_ble_eq_true rfl), (Nat.le_of_ble_eq_true rfl)⟩ rfl rfl (fun v M1 z => z.elim) ?_
  rintro y M1 ⟨rfl, K1, hW1, hR⟩
  refine gx_catch hX (nm := "java/lang/IllegalArgumentException") [{ startPc := 0, endPc := 10, handlerPc := 13, catchType := 24 }] { startPc := 0, endPc := 10, handlerPc := 17, catchType := 13 } [] rfl (fun y hy => by
      rcases List.mem_cons.mp hy with rfl | hy
      · exact ⟨by decide, _, in3 54 rfl rfl, by decide⟩
      exact nomatch hy) (by decide) (by decide) (in2 237 rfl rfl) (nw2 173 rfl rfl) ?_
  intro qq
  refine gq_astore hX dL_arrearsAfterByRate_17 rfl (Nat.le_of_ble_eq_true rfl) rfl ?_
  refine gq_iconst (v := nI 2) hX dL_arrearsAfterByRate_19 rfl (by decide) ?_
  exact gq_iret hX hQ dL_arrearsAfterByRate_20 rfl ⟨rfl, K1, hW1, hR⟩

set_option maxRecDepth 100000 in
set_option maxHeartbeats 4000000 in
theorem wl_committeeAtRank_ok {E : Ev} {b : Nat → Nat} {K : Kt} {M : Hp} (hb : Lay E 162 b) (hW : Wd E b K M) {p0 : Int32} {r : Int32} {R : Kt → Prop} {mc ms : Nat} (h1 : mc ≤ 23) (h2 : ms ≤ 3266) (h : Ct E mX4_committeeAtRank [.ref (b 0), .int p0] M (RsC E b (.int r) R) mc ms) : CtH E mL_committeeAtRank [.ref (b 0), .int p0, .ref (b 160)] M (RsC E b (.int (nI 0)) (LoR R r.toInt64)) 23 3266 := by
  refine CtH.of gmL_committeeAtRank (ls := [.ref (b 0), .int p0, .ref (b 160), hole]) rfl rfl (Nat.le_of_ble_eq_true rfl) ?_
  intro X hX Q hQ
  refine gq_bud (nc1 := mc) (ns1 := ms) h1 h2 ?_
  refine gq_aload_n hX dL_committeeAtRank_0 rfl rfl rfl ?_
  refine gq_iconst (v := nI 0) hX dL_committeeAtRank_1 rfl (by decide) ?_
  refine gq_aload_n hX dL_committeeAtRank_2 rfl rfl rfl ?_
  refine gq_iload_n hX dL_committeeAtRank_3 rfl rfl rfl ?_
  refine gq_callV (nc1 := 0) (ns1 := 0) hX dL_committeeAtRank_4 vL_119 h rfl hW.c0 rfl rfl (Nat.le_of_ble_eq_true rfl) ⟨(Nat.le_of_ble_eq_true rfl), (Nat.le_of_ble_eq_true rfl)⟩ rfl rfl ?_
  rintro v M1 ⟨rfl, K1, hW1, hR⟩
  refine gq_i2l hX dL_committeeAtRank_7 rfl ?_
  refine gq_last hX dL_committeeAtRank_8 rfl hW1.lo (vp_in_nI (by decide) (by decide)) (hb.2 160 (by decide)) rfl ?_
  have hW2 := hW1.wlo hb (vp_updL K1.2.2.2.2.2.2.1 (nI 0).toNatClampNeg r.toInt64)
  refine gq_goto (tgt := 15) hX dL_committeeAtRank_9 rfl ?_
  refine gq_iconst (v := nI 0) hX dL_committeeAtRank_15 rfl (by decide) ?_
  exact gq_iret hX hQ dL_committeeAtRank_16 rfl ⟨rfl, _, hW2, K1, _, hR, rfl, rfl⟩

set_option maxRecDepth 100000 in
set_option maxHeartbeats 4000000 in
theorem wl_committeeAtRank_1 {E : Ev} {b : Nat → Nat} {K : Kt} {M : Hp} (hb : Lay E 162 b) (hW : Wd E b K M) {p0 : Int32} {R : Kt → Prop} {mc ms : Nat} (h1 : mc ≤ 23) (h2 : ms ≤ 3266) (h : CtX E mX4_committeeAtRank [.ref (b 0), .int p0] M NoR (ThC E b "java/util/NoSuchElementException" R) mc ms) : CtH E mL_committeeAtRank [.ref (b 0), .int p0, .ref (b 160)] M (RsC E b (.int (nI 1)) R) 23 3266 := by
  refine CtH.of gmL_committeeAtRank (ls := [.ref (b 0), .int p0, .ref (b 160), hole]) rfl rfl (Nat.le_of_ble_eq_true rfl) ?_
  intro X hX Q hQ
  refine gq_bud (nc1 := mc) (ns1 := ms) h1 h2 ?_
  refine gq_aload_n hX dL_committeeAtRank_0 rfl rfl rfl ?_
  refine gq_iconst (v := nI 0) hX dL_committeeAtRank_1 rfl (by decide) ?_
  refine gq_aload_n hX dL_committeeAtRank_2 rfl rfl rfl ?_
  refine gq_iload_n hX dL_committeeAtRank_3 rfl rfl rfl ?_
  refine gq_callVX (nc1 := 0) (ns1 := 0) hX dL_committeeAtRank_4 vL_119 h rfl hW.c0 rfl rfl (Nat.le_of_ble_eq_true rfl) ⟨(Nat.le_of_ble_eq_true rfl), (Nat.le_of_ble_eq_true rfl)⟩ rfl rfl (fun v M1 z => z.elim) ?_
  rintro y M1 ⟨rfl, K1, hW1, hR⟩
  refine gx_catch hX (nm := "java/util/NoSuchElementException") [] { startPc := 0, endPc := 9, handlerPc := 12, catchType := 56 } [] rfl (fun y hy => nomatch hy) (by decide) (by decide) (in3 187 rfl rfl) (nw3 194 rfl rfl) ?_
  intro qq
  refine gq_astore_n hX dL_committeeAtRank_12 rfl rfl (Nat.le_of_ble_eq_true rfl) rfl ?_
  refine gq_iconst (v := nI 1) hX dL_committeeAtRank_13 rfl (by decide) ?_
  exact gq_iret hX hQ dL_committeeAtRank_14 rfl ⟨rfl, K1, hW1, hR⟩

set_option maxRecDepth 100000 in
set_option maxHeartbeats 4000000 in
theorem wl_append_ok {E : Ev} {b : Nat → Nat} {K : Kt} {M : Hp} (hb : Lay E 162 b) (hW : Wd E b K M) {p0 : Int32} {r : Int32} {R : Kt → Prop} {mc ms : Nat} (h1 : mc ≤ 23) (h2 : ms ≤ 3266) (h : Ct E mX4_append [.ref (b 0), .int p0] M (RsC E b (.int r) R) mc ms) : CtH E mL_append [.ref (b 0), .int p0, .ref (b 160)] M (RsC E b (.int (nI 0)) (LoR R r.toInt64)) 23 3266 := by
  refine CtH.of gmL_append (ls := [.ref (b 0), .int p0, .ref (b 160), hole]) rfl rfl (Nat.le_of_ble_eq_true rfl) ?_
  intro X hX Q hQ
  refine gq_bud (nc1 := mc) (ns1 := ms) h1 h2 ?_
  refine gq_aload_n hX dL_append_0 rfl rfl rfl ?_
  refine gq_iconst (v := nI 0) hX dL_append_1 rfl (by decide) ?_
  refine gq_aload_n hX dL_append_2 rfl rfl rfl ?_
  refine gq_iload_n hX dL_append_3 rfl rfl rfl ?_
  refine gq_callV (nc1 := 0) (ns1 := 0) hX dL_append_4 vL_122 h rfl hW.c0 rfl rfl (Nat.le_of_ble_eq_true rfl) ⟨(Nat.le_of_ble_eq_true rfl), (Nat.le_of_ble_eq_true rfl)⟩ rfl rfl ?_
  rintro v M1 ⟨rfl, K1, hW1, hR⟩
  refine gq_i2l hX dL_append_7 rfl ?_
  refine gq_last hX dL_append_8 rfl hW1.lo (vp_in_nI (by decide) (by decide)) (hb.2 160 (by decide)) rfl ?_
  have hW2 := hW1.wlo hb (vp_updL K1.2.2.2.2.2.2.1 (nI 0).toNatClampNeg r.toInt64)
  refine gq_goto (tgt := 18) hX dL_append_9 rfl ?_
  refine gq_iconst (v := nI 0) hX dL_append_18 rfl (by decide) ?_
  exact gq_iret hX hQ dL_append_19 rfl ⟨rfl, _, hW2, K1, _, hR, rfl, rfl⟩

set_option maxRecDepth 100000 in
set_option maxHeartbeats 4000000 in
theorem wl_append_1 {E : Ev} {b : Nat → Nat} {K : Kt} {M : Hp} (hb : Lay E 162 b) (hW : Wd E b K M) {p0 : Int32} {R : Kt → Prop} {mc ms : Nat} (h1 : mc ≤ 23) (h2 : ms ≤ 3266) (h : CtX E mX4_append [.ref (b 0), .int p0] M NoR (ThC E b "java/lang/IllegalArgumentException" R) mc ms) : CtH E mL_append [.ref (b 0), .int p0, .ref (b 160)] M (RsC E b (.int (nI 1)) R) 23 3266 := by
  refine CtH.of gmL_append (ls := [.ref (b 0), .int p0, .ref (b 160), hole]) rfl rfl (Nat.le_of_ble_eq_true rfl) ?_
  intro X hX Q hQ
  refine gq_bud (nc1 := mc) (ns1 := ms) h1 h2 ?_
  refine gq_aload_n hX dL_append_0 rfl rfl rfl ?_
  refine gq_iconst (v := nI 0) hX dL_append_1 rfl (by decide) ?_
  refine gq_aload_n hX dL_append_2 rfl rfl rfl ?_
  refine gq_iload_n hX dL_append_3 rfl rfl rfl ?_
  refine gq_callVX (nc1 := 0) (ns1 := 0) hX dL_append_4 vL_122 h rfl hW.c0 rfl rfl (Nat.le_of_ble_eq_true rfl) ⟨(Nat.le_of_ble_eq_true rfl), (Nat.le_of_ble_eq_true rfl)⟩ rfl rfl (fun v M1 z => z.elim) ?_
  rintro y M1 ⟨rfl, K1, hW1, hR⟩
  refine gx_catch hX (nm := "java/lang/IllegalArgumentException") [] { startPc := 0, endPc := 9, handlerPc := 12, catchType := 13 } [{ startPc := 0, endPc := 9, handlerPc := 15, catchType := 15 }] rfl (fun y hy => nomatch hy) (by decide) (by decide) (in2 237 rfl rfl) (nw2 173 rfl rfl) ?_
  intro qq
  refine gq_astore_n hX dL_append_12 rfl rfl (Nat.le_of_ble_eq_true rfl) rfl ?_
  refine gq_iconst (v := nI 1) hX dL_append_13 rfl (by decide) ?_
  exact gq_iret hX hQ dL_append_14 rfl ⟨rfl, K1, hW1, hR⟩

set_option maxRecDepth 100000 in
set_option maxHeartbeats 4000000 in
theorem wl_append_2 {E : Ev} {b : Nat → Nat} {K : Kt} {M : Hp} (hb : Lay E 162 b) (hW : Wd E b K M) {p0 : Int32} {R : Kt → Prop} {mc ms : Nat} (h1 : mc ≤ 23) (h2 : ms ≤ 3266) (h : CtX E mX4_append [.ref (b 0), .int p0] M NoR (ThC E b "java/lang/IllegalStateException" R) mc ms) : CtH E mL_append [.ref (b 0), .int p0, .ref (b 160)] M (RsC E b (.int (nI 2)) R) 23 3266 := by
  refine CtH.of gmL_append (ls := [.ref (b 0), .int p0, .ref (b 160), hole]) rfl rfl (Nat.le_of_ble_eq_true rfl) ?_
  intro X hX Q hQ
  refine gq_bud (nc1 := mc) (ns1 := ms) h1 h2 ?_
  refine gq_aload_n hX dL_append_0 rfl rfl rfl ?_
  refine gq_iconst (v := nI 0) hX dL_append_1 rfl (by decide) ?_
  refine gq_aload_n hX dL_append_2 rfl rfl rfl ?_
  refine gq_iload_n hX dL_append_3 rfl rfl rfl ?_
  refine gq_callVX (nc1 := 0) (ns1 := 0) hX dL_append_4 vL_122 h rfl hW.c0 rfl rfl (Nat.le_of_ble_eq_true rfl) ⟨(Nat.le_of_ble_eq_true rfl), (Nat.le_of_ble_eq_true rfl)⟩ rfl rfl (fun v M1 z => z.elim) ?_
  rintro y M1 ⟨rfl, K1, hW1, hR⟩
  refine gx_catch hX (nm := "java/lang/IllegalStateException") [{ startPc := 0, endPc := 9, handlerPc := 12, catchType := 13 }] { startPc := 0, endPc := 9, handlerPc := 15, catchType := 15 } [] rfl (fun y hy => by
      rcases List.mem_cons.mp hy with rfl | hy
      · exact ⟨by decide, _, in2 237 rfl rfl, by decide⟩
      exact nomatch hy) (by decide) (by decide) (in2 238 rfl rfl) (nw3 10 rfl rfl) ?_
  intro qq
  refine gq_astore_n hX dL_append_15 rfl rfl (Nat.le_of_ble_eq_true rfl) rfl ?_
  refine gq_iconst (v := nI 2) hX dL_append_16 rfl (by decide) ?_
  exact gq_iret hX hQ dL_append_17 rfl ⟨rfl, K1, hW1, hR⟩

set_option maxRecDepth 100000 in
set_option maxHeartbeats 4000000 in
theorem wl_run_ok {E : Ev} {b : Nat → Nat} {K : Kt} {M : Hp} (hb : Lay E 162 b) (hW : Wd E b K M) {r : Int32} {R : Kt → Prop} {mc ms : Nat} (h1 : mc ≤ 23) (h2 : ms ≤ 3266) (h : Ct E mX4_run [.ref (b 0)] M (RsC E b (.int r) R) mc ms) : CtH E mL_run [.ref (b 0), .ref (b 160)] M (RsC E b (.int (nI 0)) (LoR R r.toInt64)) 23 3266 := by
  refine CtH.of gmL_run (ls := [.ref (b 0), .ref (b 160), hole]) rfl rfl (Nat.le_of_ble_eq_true rfl) ?_
  intro X hX Q hQ
  refine gq_bud (nc1 := mc) (ns1 := ms) h1 h2 ?_
  refine gq_aload_n hX dL_run_0 rfl rfl rfl ?_
  refine gq_iconst (v := nI 0) hX dL_run_1 rfl (by decide) ?_
  refine gq_aload_n hX dL_run_2 rfl rfl rfl ?_
  refine gq_callV (nc1 := 0) (ns1 := 0) hX dL_run_3 vL_126 h rfl hW.c0 rfl rfl (Nat.le_of_ble_eq_true rfl) ⟨(Nat.le_of_ble_eq_true rfl), (Nat.le_of_ble_eq_true rfl)⟩ rfl rfl ?_
  rintro v M1 ⟨rfl, K1, hW1, hR⟩
  refine gq_i2l hX dL_run_6 rfl ?_
  refine gq_last hX dL_run_7 rfl hW1.lo (vp_in_nI (by decide) (by decide)) (hb.2 160 (by decide)) rfl ?_
  have hW2 := hW1.wlo hb (vp_updL K1.2.2.2.2.2.2.1 (nI 0).toNatClampNeg r.toInt64)
  refine gq_goto (tgt := 17) hX dL_run_8 rfl ?_
  refine gq_iconst (v := nI 0) hX dL_run_17 rfl (by decide) ?_
  exact gq_iret hX hQ dL_run_18 rfl ⟨rfl, _, hW2, K1, _, hR, rfl, rfl⟩

set_option maxRecDepth 100000 in
set_option maxHeartbeats 4000000 in
theorem wl_run_1 {E : Ev} {b : Nat → Nat} {K : Kt} {M : Hp} (hb : Lay E 162 b) (hW : Wd E b K M) {R : Kt → Prop} {mc ms : Nat} (h1 : mc ≤ 23) (h2 : ms ≤ 3266) (h : CtX E mX4_run [.ref (b 0)] M NoR (ThC E b "java/lang/IllegalArgumentException" R) mc ms) : CtH E mL_run [.ref (b 0), .ref (b 160)] M (RsC E b (.int (nI 1)) R) 23 3266 := by
  refine CtH.of gmL_run (ls := [.ref (b 0), .ref (b 160), hole]) rfl rfl (Nat.le_of_ble_eq_true rfl) ?_
  intro X hX Q hQ
  refine gq_bud (nc1 := mc) (ns1 := ms) h1 h2 ?_
  refine gq_aload_n hX dL_run_0 rfl rfl rfl ?_
  refine gq_iconst (v := nI 0) hX dL_run_1 rfl (by decide) ?_
  refine gq_aload_n hX dL_run_2 rfl rfl rfl ?_
  refine gq_callVX (nc1 := 0) (ns1 := 0) hX dL_run_3 vL_126 h rfl hW.c0 rfl rfl (Nat.le_of_ble_eq_true rfl) ⟨(Nat.le_of_ble_eq_true rfl), (Nat.le_of_ble_eq_true rfl)⟩ rfl rfl (fun v M1 z => z.elim) ?_
  rintro y M1 ⟨rfl, K1, hW1, hR⟩
  refine gx_catch hX (nm := "java/lang/IllegalArgumentException") [] { startPc := 0, endPc := 8, handlerPc := 11, catchType := 13 } [{ startPc := 0, endPc := 8, handlerPc := 14, catchType := 15 }] rfl (fun y hy => nomatch hy) (by decide) (by decide) (in2 237 rfl rfl) (nw2 173 rfl rfl) ?_
  intro qq
  refine gq_astore_n hX dL_run_11 rfl rfl (Nat.le_of_ble_eq_true rfl) rfl ?_
  refine gq_iconst (v := nI 1) hX dL_run_12 rfl (by decide) ?_
  exact gq_iret hX hQ dL_run_13 rfl ⟨rfl, K1, hW1, hR⟩

set_option maxRecDepth 100000 in
set_option maxHeartbeats 4000000 in
theorem wl_run_2 {E : Ev} {b : Nat → Nat} {K : Kt} {M : Hp} (hb : Lay E 162 b) (hW : Wd E b K M) {R : Kt → Prop} {mc ms : Nat} (h1 : mc ≤ 23) (h2 : ms ≤ 3266) (h : CtX E mX4_run [.ref (b 0)] M NoR (ThC E b "java/lang/IllegalStateException" R) mc ms) : CtH E mL_run [.ref (b 0), .ref (b 160)] M (RsC E b (.int (nI 2)) R) 23 3266 := by
  refine CtH.of gmL_run (ls := [.ref (b 0), .ref (b 160), hole]) rfl rfl (Nat.le_of_ble_eq_true rfl) ?_
  intro X hX Q hQ
  refine gq_bud (nc1 := mc) (ns1 := ms) h1 h2 ?_
  refine gq_aload_n hX dL_run_0 rfl rfl rfl ?_
  refine gq_iconst (v := nI 0) hX dL_run_1 rfl (by decide) ?_
  refine gq_aload_n hX dL_run_2 rfl rfl rfl ?_
  refine gq_callVX (nc1 := 0) (ns1 := 0) hX dL_run_3 vL_126 h rfl hW.c0 rfl rfl (Nat.le_of_ble_eq_true rfl) ⟨(Nat.le_of_ble_eq_true rfl), (Nat.le_of_ble_eq_true rfl)⟩ rfl rfl (fun v M1 z => z.elim) ?_
  rintro y M1 ⟨rfl, K1, hW1, hR⟩
  refine gx_catch hX (nm := "java/lang/IllegalStateException") [{ startPc := 0, endPc := 8, handlerPc := 11, catchType := 13 }] { startPc := 0, endPc := 8, handlerPc := 14, catchType := 15 } [] rfl (fun y hy => by
      rcases List.mem_cons.mp hy with rfl | hy
      · exact ⟨by decide, _, in2 237 rfl rfl, by decide⟩
      exact nomatch hy) (by decide) (by decide) (in2 238 rfl rfl) (nw3 10 rfl rfl) ?_
  intro qq
  refine gq_astore_n hX dL_run_14 rfl rfl (Nat.le_of_ble_eq_true rfl) rfl ?_
  refine gq_iconst (v := nI 2) hX dL_run_15 rfl (by decide) ?_
  exact gq_iret hX hQ dL_run_16 rfl ⟨rfl, K1, hW1, hR⟩

set_option maxRecDepth 100000 in
set_option maxHeartbeats 4000000 in
theorem wl_errorPosition_ok {E : Ev} {b : Nat → Nat} {K : Kt} {M : Hp} (hb : Lay E 162 b) (hW : Wd E b K M) {r : Int32} {R : Kt → Prop} {mc ms : Nat} (h1 : mc ≤ 23) (h2 : ms ≤ 3266) (h : Ct E mX4_errorPosition [.ref (b 0)] M (RsC E b (.int r) R) mc ms) : CtH E mL_errorPosition [.ref (b 0), .ref (b 160)] M (RsC E b (.int (nI 0)) (LoR R r.toInt64)) 23 3266 := by
  refine CtH.of gmL_errorPosition (ls := [.ref (b 0), .ref (b 160), hole]) rfl rfl (Nat.le_of_ble_eq_true rfl) ?_
  intro X hX Q hQ
  refine gq_bud (nc1 := mc) (ns1 := ms) h1 h2 ?_
  refine gq_aload_n hX dL_errorPosition_0 rfl rfl rfl ?_
  refine gq_iconst (v := nI 0) hX dL_errorPosition_1 rfl (by decide) ?_
  refine gq_aload_n hX dL_errorPosition_2 rfl rfl rfl ?_
  refine gq_callV (nc1 := 0) (ns1 := 0) hX dL_errorPosition_3 vL_129 h rfl hW.c0 rfl rfl (Nat.le_of_ble_eq_true rfl) ⟨(Nat.le_of_ble_eq_true rfl), (Nat.le_of_ble_eq_true rfl)⟩ rfl rfl ?_
  rintro v M1 ⟨rfl, K1, hW1, hR⟩
  refine gq_i2l hX dL_errorPosition_6 rfl ?_
  refine gq_last hX dL_errorPosition_7 rfl hW1.lo (vp_in_nI (by decide) (by decide)) (hb.2 160 (by decide)) rfl ?_
  have hW2 := hW1.wlo hb (vp_updL K1.2.2.2.2.2.2.1 (nI 0).toNatClampNeg r.toInt64)
  refine gq_goto (tgt := 14) hX dL_errorPosition_8 rfl ?_
  refine gq_iconst (v := nI 0) hX dL_errorPosition_14 rfl (by decide) ?_
  exact gq_iret hX hQ dL_errorPosition_15 rfl ⟨rfl, _, hW2, K1, _, hR, rfl, rfl⟩

set_option maxRecDepth 100000 in
set_option maxHeartbeats 4000000 in
theorem wl_errorPosition_1 {E : Ev} {b : Nat → Nat} {K : Kt} {M : Hp} (hb : Lay E 162 b) (hW : Wd E b K M) {R : Kt → Prop} {mc ms : Nat} (h1 : mc ≤ 23) (h2 : ms ≤ 3266) (h : CtX E mX4_errorPosition [.ref (b 0)] M NoR (ThC E b "java/util/NoSuchElementException" R) mc ms) : CtH E mL_errorPosition [.ref (b 0), .ref (b 160)] M (RsC E b (.int (nI 1)) R) 23 3266 := by
  refine CtH.of gmL_errorPosition (ls := [.ref (b 0), .ref (b 160), hole]) rfl rfl (Nat.le_of_ble_eq_true rfl) ?_
  intro X hX Q hQ
  refine gq_bud (nc1 := mc) (ns1 := ms) h1 h2 ?_
  refine gq_aload_n hX dL_errorPosition_0 rfl rfl rfl ?_
  refine gq_iconst (v := nI 0) hX dL_errorPosition_1 rfl (by decide) ?_
  refine gq_aload_n hX dL_errorPosition_2 rfl rfl rfl ?_
  refine gq_callVX (nc1 := 0) (ns1 := 0) hX dL_errorPosition_3 vL_129 h rfl hW.c0 rfl rfl (Nat.le_of_ble_eq_true rfl) ⟨(Nat.le_of_ble_eq_true rfl), (Nat.le_of_ble_eq_true rfl)⟩ rfl rfl (fun v M1 z => z.elim) ?_
  rintro y M1 ⟨rfl, K1, hW1, hR⟩
  refine gx_catch hX (nm := "java/util/NoSuchElementException") [] { startPc := 0, endPc := 8, handlerPc := 11, catchType := 56 } [] rfl (fun y hy => nomatch hy) (by decide) (by decide) (in3 187 rfl rfl) (nw3 194 rfl rfl) ?_
  intro qq
  refine gq_astore_n hX dL_errorPosition_11 rfl rfl (Nat.le_of_ble_eq_true rfl) rfl ?_
  refine gq_iconst (v := nI 1) hX dL_errorPosition_12 rfl (by decide) ?_
  exact gq_iret hX hQ dL_errorPosition_13 rfl ⟨rfl, K1, hW1, hR⟩

set_option maxRecDepth 100000 in
set_option maxHeartbeats 4000000 in
theorem wl_failedCommand_ok {E : Ev} {b : Nat → Nat} {K : Kt} {M : Hp} (hb : Lay E 162 b) (hW : Wd E b K M) {r : Int32} {R : Kt → Prop} {mc ms : Nat} (h1 : mc ≤ 23) (h2 : ms ≤ 3266) (h : Ct E mX4_failedCommand [.ref (b 0)] M (RsC E b (.int r) R) mc ms) : CtH E mL_failedCommand [.ref (b 0), .ref (b 160)] M (RsC E b (.int (nI 0)) (LoR R r.toInt64)) 23 3266 := by
  refine CtH.of gmL_failedCommand (ls := [.ref (b 0), .ref (b 160), hole]) rfl rfl (Nat.le_of_ble_eq_true rfl) ?_
  intro X hX Q hQ
  refine gq_bud (nc1 := mc) (ns1 := ms) h1 h2 ?_
  refine gq_aload_n hX dL_failedCommand_0 rfl rfl rfl ?_
  refine gq_iconst (v := nI 0) hX dL_failedCommand_1 rfl (by decide) ?_
  refine gq_aload_n hX dL_failedCommand_2 rfl rfl rfl ?_
  refine gq_callV (nc1 := 0) (ns1 := 0) hX dL_failedCommand_3 vL_132 h rfl hW.c0 rfl rfl (Nat.le_of_ble_eq_true rfl) ⟨(Nat.le_of_ble_eq_true rfl), (Nat.le_of_ble_eq_true rfl)⟩ rfl rfl ?_
  rintro v M1 ⟨rfl, K1, hW1, hR⟩
  refine gq_i2l hX dL_failedCommand_6 rfl ?_
  refine gq_last hX dL_failedCommand_7 rfl hW1.lo (vp_in_nI (by decide) (by decide)) (hb.2 160 (by decide)) rfl ?_
  have hW2 := hW1.wlo hb (vp_updL K1.2.2.2.2.2.2.1 (nI 0).toNatClampNeg r.toInt64)
  refine gq_goto (tgt := 14) hX dL_failedCommand_8 rfl ?_
  refine gq_iconst (v := nI 0) hX dL_failedCommand_14 rfl (by decide) ?_
  exact gq_iret hX hQ dL_failedCommand_15 rfl ⟨rfl, _, hW2, K1, _, hR, rfl, rfl⟩

set_option maxRecDepth 100000 in
set_option maxHeartbeats 4000000 in
theorem wl_failedCommand_1 {E : Ev} {b : Nat → Nat} {K : Kt} {M : Hp} (hb : Lay E 162 b) (hW : Wd E b K M) {R : Kt → Prop} {mc ms : Nat} (h1 : mc ≤ 23) (h2 : ms ≤ 3266) (h : CtX E mX4_failedCommand [.ref (b 0)] M NoR (ThC E b "java/util/NoSuchElementException" R) mc ms) : CtH E mL_failedCommand [.ref (b 0), .ref (b 160)] M (RsC E b (.int (nI 1)) R) 23 3266 := by
  refine CtH.of gmL_failedCommand (ls := [.ref (b 0), .ref (b 160), hole]) rfl rfl (Nat.le_of_ble_eq_true rfl) ?_
  intro X hX Q hQ
  refine gq_bud (nc1 := mc) (ns1 := ms) h1 h2 ?_
  refine gq_aload_n hX dL_failedCommand_0 rfl rfl rfl ?_
  refine gq_iconst (v := nI 0) hX dL_failedCommand_1 rfl (by decide) ?_
  refine gq_aload_n hX dL_failedCommand_2 rfl rfl rfl ?_
  refine gq_callVX (nc1 := 0) (ns1 := 0) hX dL_failedCommand_3 vL_132 h rfl hW.c0 rfl rfl (Nat.le_of_ble_eq_true rfl) ⟨(Nat.le_of_ble_eq_true rfl), (Nat.le_of_ble_eq_true rfl)⟩ rfl rfl (fun v M1 z => z.elim) ?_
  rintro y M1 ⟨rfl, K1, hW1, hR⟩
  refine gx_catch hX (nm := "java/util/NoSuchElementException") [] { startPc := 0, endPc := 8, handlerPc := 11, catchType := 56 } [] rfl (fun y hy => nomatch hy) (by decide) (by decide) (in3 187 rfl rfl) (nw3 194 rfl rfl) ?_
  intro qq
  refine gq_astore_n hX dL_failedCommand_11 rfl rfl (Nat.le_of_ble_eq_true rfl) rfl ?_
  refine gq_iconst (v := nI 1) hX dL_failedCommand_12 rfl (by decide) ?_
  exact gq_iret hX hQ dL_failedCommand_13 rfl ⟨rfl, K1, hW1, hR⟩

set_option maxRecDepth 100000 in
set_option maxHeartbeats 4000000 in
theorem wl_failedException_ok {E : Ev} {b : Nat → Nat} {K : Kt} {M : Hp} (hb : Lay E 162 b) (hW : Wd E b K M) {r : Int32} {R : Kt → Prop} {mc ms : Nat} (h1 : mc ≤ 23) (h2 : ms ≤ 3266) (h : Ct E mX4_failedException [.ref (b 0)] M (RsC E b (.int r) R) mc ms) : CtH E mL_failedException [.ref (b 0), .ref (b 160)] M (RsC E b (.int (nI 0)) (LoR R r.toInt64)) 23 3266 := by
  refine CtH.of gmL_failedException (ls := [.ref (b 0), .ref (b 160), hole]) rfl rfl (Nat.le_of_ble_eq_true rfl) ?_
  intro X hX Q hQ
  refine gq_bud (nc1 := mc) (ns1 := ms) h1 h2 ?_
  refine gq_aload_n hX dL_failedException_0 rfl rfl rfl ?_
  refine gq_iconst (v := nI 0) hX dL_failedException_1 rfl (by decide) ?_
  refine gq_aload_n hX dL_failedException_2 rfl rfl rfl ?_
  refine gq_callV (nc1 := 0) (ns1 := 0) hX dL_failedException_3 vL_135 h rfl hW.c0 rfl rfl (Nat.le_of_ble_eq_true rfl) ⟨(Nat.le_of_ble_eq_true rfl), (Nat.le_of_ble_eq_true rfl)⟩ rfl rfl ?_
  rintro v M1 ⟨rfl, K1, hW1, hR⟩
  refine gq_i2l hX dL_failedException_6 rfl ?_
  refine gq_last hX dL_failedException_7 rfl hW1.lo (vp_in_nI (by decide) (by decide)) (hb.2 160 (by decide)) rfl ?_
  have hW2 := hW1.wlo hb (vp_updL K1.2.2.2.2.2.2.1 (nI 0).toNatClampNeg r.toInt64)
  refine gq_goto (tgt := 14) hX dL_failedException_8 rfl ?_
  refine gq_iconst (v := nI 0) hX dL_failedException_14 rfl (by decide) ?_
  exact gq_iret hX hQ dL_failedException_15 rfl ⟨rfl, _, hW2, K1, _, hR, rfl, rfl⟩

set_option maxRecDepth 100000 in
set_option maxHeartbeats 4000000 in
theorem wl_failedException_1 {E : Ev} {b : Nat → Nat} {K : Kt} {M : Hp} (hb : Lay E 162 b) (hW : Wd E b K M) {R : Kt → Prop} {mc ms : Nat} (h1 : mc ≤ 23) (h2 : ms ≤ 3266) (h : CtX E mX4_failedException [.ref (b 0)] M NoR (ThC E b "java/util/NoSuchElementException" R) mc ms) : CtH E mL_failedException [.ref (b 0), .ref (b 160)] M (RsC E b (.int (nI 1)) R) 23 3266 := by
  refine CtH.of gmL_failedException (ls := [.ref (b 0), .ref (b 160), hole]) rfl rfl (Nat.le_of_ble_eq_true rfl) ?_
  intro X hX Q hQ
  refine gq_bud (nc1 := mc) (ns1 := ms) h1 h2 ?_
  refine gq_aload_n hX dL_failedException_0 rfl rfl rfl ?_
  refine gq_iconst (v := nI 0) hX dL_failedException_1 rfl (by decide) ?_
  refine gq_aload_n hX dL_failedException_2 rfl rfl rfl ?_
  refine gq_callVX (nc1 := 0) (ns1 := 0) hX dL_failedException_3 vL_135 h rfl hW.c0 rfl rfl (Nat.le_of_ble_eq_true rfl) ⟨(Nat.le_of_ble_eq_true rfl), (Nat.le_of_ble_eq_true rfl)⟩ rfl rfl (fun v M1 z => z.elim) ?_
  rintro y M1 ⟨rfl, K1, hW1, hR⟩
  refine gx_catch hX (nm := "java/util/NoSuchElementException") [] { startPc := 0, endPc := 8, handlerPc := 11, catchType := 56 } [] rfl (fun y hy => nomatch hy) (by decide) (by decide) (in3 187 rfl rfl) (nw3 194 rfl rfl) ?_
  intro qq
  refine gq_astore_n hX dL_failedException_11 rfl rfl (Nat.le_of_ble_eq_true rfl) rfl ?_
  refine gq_iconst (v := nI 1) hX dL_failedException_12 rfl (by decide) ?_
  exact gq_iret hX hQ dL_failedException_13 rfl ⟨rfl, K1, hW1, hR⟩

set_option maxRecDepth 100000 in
set_option maxHeartbeats 4000000 in
theorem wl_describeCommittee_ok {E : Ev} {b : Nat → Nat} {K : Kt} {M : Hp} (hb : Lay E 162 b) (hW : Wd E b K M) {p0 : Int32} {r : Int32} {R : Kt → Prop} {mc ms : Nat} (h1 : mc ≤ 23) (h2 : ms ≤ 3266) (h : Ct E mX4_describeCommittee [.ref (b 0), .int p0] M (RsC E b (.int r) R) mc ms) : CtH E mL_describeCommittee [.ref (b 0), .int p0, .ref (b 160)] M (RsC E b (.int (nI 0)) (LoR R r.toInt64)) 23 3266 := by
  refine CtH.of gmL_describeCommittee (ls := [.ref (b 0), .int p0, .ref (b 160), hole]) rfl rfl (Nat.le_of_ble_eq_true rfl) ?_
  intro X hX Q hQ
  refine gq_bud (nc1 := mc) (ns1 := ms) h1 h2 ?_
  refine gq_aload_n hX dL_describeCommittee_0 rfl rfl rfl ?_
  refine gq_iconst (v := nI 0) hX dL_describeCommittee_1 rfl (by decide) ?_
  refine gq_aload_n hX dL_describeCommittee_2 rfl rfl rfl ?_
  refine gq_iload_n hX dL_describeCommittee_3 rfl rfl rfl ?_
  refine gq_callV (nc1 := 0) (ns1 := 0) hX dL_describeCommittee_4 vL_138 h rfl hW.c0 rfl rfl (Nat.le_of_ble_eq_true rfl) ⟨(Nat.le_of_ble_eq_true rfl), (Nat.le_of_ble_eq_true rfl)⟩ rfl rfl ?_
  rintro v M1 ⟨rfl, K1, hW1, hR⟩
  refine gq_i2l hX dL_describeCommittee_7 rfl ?_
  refine gq_last hX dL_describeCommittee_8 rfl hW1.lo (vp_in_nI (by decide) (by decide)) (hb.2 160 (by decide)) rfl ?_
  have hW2 := hW1.wlo hb (vp_updL K1.2.2.2.2.2.2.1 (nI 0).toNatClampNeg r.toInt64)
  refine gq_goto (tgt := 15) hX dL_describeCommittee_9 rfl ?_
  refine gq_iconst (v := nI 0) hX dL_describeCommittee_15 rfl (by decide) ?_
  exact gq_iret hX hQ dL_describeCommittee_16 rfl ⟨rfl, _, hW2, K1, _, hR, rfl, rfl⟩

set_option maxRecDepth 100000 in
set_option maxHeartbeats 4000000 in
theorem wl_describeCommittee_1 {E : Ev} {b : Nat → Nat} {K : Kt} {M : Hp} (hb : Lay E 162 b) (hW : Wd E b K M) {p0 : Int32} {R : Kt → Prop} {mc ms : Nat} (h1 : mc ≤ 23) (h2 : ms ≤ 3266) (h : CtX E mX4_describeCommittee [.ref (b 0), .int p0] M NoR (ThC E b "java/lang/IndexOutOfBoundsException" R) mc ms) : CtH E mL_describeCommittee [.ref (b 0), .int p0, .ref (b 160)] M (RsC E b (.int (nI 1)) R) 23 3266 := by
  refine CtH.of gmL_describeCommittee (ls := [.ref (b 0), .int p0, .ref (b 160), hole]) rfl rfl (Nat.le_of_ble_eq_true rfl) ?_
  intro X hX Q hQ
  refine gq_bud (nc1 := mc) (ns1 := ms) h1 h2 ?_
  refine gq_aload_n hX dL_describeCommittee_0 rfl rfl rfl ?_
  refine gq_iconst (v := nI 0) hX dL_describeCommittee_1 rfl (by decide) ?_
  refine gq_aload_n hX dL_describeCommittee_2 rfl rfl rfl ?_
  refine gq_iload_n hX dL_describeCommittee_3 rfl rfl rfl ?_
  refine gq_callVX (nc1 := 0) (ns1 := 0) hX dL_describeCommittee_4 vL_138 h rfl hW.c0 rfl rfl (Nat.le_of_ble_eq_true rfl) ⟨(Nat.le_of_ble_eq_true rfl), (Nat.le_of_ble_eq_true rfl)⟩ rfl rfl (fun v M1 z => z.elim) ?_
  rintro y M1 ⟨rfl, K1, hW1, hR⟩
  refine gx_catch hX (nm := "java/lang/IndexOutOfBoundsException") [] { startPc := 0, endPc := 9, handlerPc := 12, catchType := 24 } [] rfl (fun y hy => nomatch hy) (by decide) (by decide) (in3 54 rfl rfl) (nw2 101 rfl rfl) ?_
  intro qq
  refine gq_astore_n hX dL_describeCommittee_12 rfl rfl (Nat.le_of_ble_eq_true rfl) rfl ?_
  refine gq_iconst (v := nI 1) hX dL_describeCommittee_13 rfl (by decide) ?_
  exact gq_iret hX hQ dL_describeCommittee_14 rfl ⟨rfl, K1, hW1, hR⟩

set_option maxRecDepth 100000 in
set_option maxHeartbeats 4000000 in
theorem wl_describeMotion_ok {E : Ev} {b : Nat → Nat} {K : Kt} {M : Hp} (hb : Lay E 162 b) (hW : Wd E b K M) {p0 : Int32} {r : Int32} {R : Kt → Prop} {mc ms : Nat} (h1 : mc ≤ 23) (h2 : ms ≤ 3266) (h : Ct E mX4_describeMotion [.ref (b 0), .int p0] M (RsC E b (.int r) R) mc ms) : CtH E mL_describeMotion [.ref (b 0), .int p0, .ref (b 160)] M (RsC E b (.int (nI 0)) (LoR R r.toInt64)) 23 3266 := by
  refine CtH.of gmL_describeMotion (ls := [.ref (b 0), .int p0, .ref (b 160), hole]) rfl rfl (Nat.le_of_ble_eq_true rfl) ?_
  intro X hX Q hQ
  refine gq_bud (nc1 := mc) (ns1 := ms) h1 h2 ?_
  refine gq_aload_n hX dL_describeMotion_0 rfl rfl rfl ?_
  refine gq_iconst (v := nI 0) hX dL_describeMotion_1 rfl (by decide) ?_
  refine gq_aload_n hX dL_describeMotion_2 rfl rfl rfl ?_
  refine gq_iload_n hX dL_describeMotion_3 rfl rfl rfl ?_
  refine gq_callV (nc1 := 0) (ns1 := 0) hX dL_describeMotion_4 vL_141 h rfl hW.c0 rfl rfl (Nat.le_of_ble_eq_true rfl) ⟨(Nat.le_of_ble_eq_true rfl), (Nat.le_of_ble_eq_true rfl)⟩ rfl rfl ?_
  rintro v M1 ⟨rfl, K1, hW1, hR⟩
  refine gq_i2l hX dL_describeMotion_7 rfl ?_
  refine gq_last hX dL_describeMotion_8 rfl hW1.lo (vp_in_nI (by decide) (by decide)) (hb.2 160 (by decide)) rfl ?_
  have hW2 := hW1.wlo hb (vp_updL K1.2.2.2.2.2.2.1 (nI 0).toNatClampNeg r.toInt64)
  refine gq_goto (tgt := 15) hX dL_describeMotion_9 rfl ?_
  refine gq_iconst (v := nI 0) hX dL_describeMotion_15 rfl (by decide) ?_
  exact gq_iret hX hQ dL_describeMotion_16 rfl ⟨rfl, _, hW2, K1, _, hR, rfl, rfl⟩

set_option maxRecDepth 100000 in
set_option maxHeartbeats 4000000 in
theorem wl_describeMotion_1 {E : Ev} {b : Nat → Nat} {K : Kt} {M : Hp} (hb : Lay E 162 b) (hW : Wd E b K M) {p0 : Int32} {R : Kt → Prop} {mc ms : Nat} (h1 : mc ≤ 23) (h2 : ms ≤ 3266) (h : CtX E mX4_describeMotion [.ref (b 0), .int p0] M NoR (ThC E b "java/util/NoSuchElementException" R) mc ms) : CtH E mL_describeMotion [.ref (b 0), .int p0, .ref (b 160)] M (RsC E b (.int (nI 1)) R) 23 3266 := by
  refine CtH.of gmL_describeMotion (ls := [.ref (b 0), .int p0, .ref (b 160), hole]) rfl rfl (Nat.le_of_ble_eq_true rfl) ?_
  intro X hX Q hQ
  refine gq_bud (nc1 := mc) (ns1 := ms) h1 h2 ?_
  refine gq_aload_n hX dL_describeMotion_0 rfl rfl rfl ?_
  refine gq_iconst (v := nI 0) hX dL_describeMotion_1 rfl (by decide) ?_
  refine gq_aload_n hX dL_describeMotion_2 rfl rfl rfl ?_
  refine gq_iload_n hX dL_describeMotion_3 rfl rfl rfl ?_
  refine gq_callVX (nc1 := 0) (ns1 := 0) hX dL_describeMotion_4 vL_141 h rfl hW.c0 rfl rfl (Nat.le_of_ble_eq_true rfl) ⟨(Nat.le_of_ble_eq_true rfl), (Nat.le_of_ble_eq_true rfl)⟩ rfl rfl (fun v M1 z => z.elim) ?_
  rintro y M1 ⟨rfl, K1, hW1, hR⟩
  refine gx_catch hX (nm := "java/util/NoSuchElementException") [] { startPc := 0, endPc := 9, handlerPc := 12, catchType := 56 } [] rfl (fun y hy => nomatch hy) (by decide) (by decide) (in3 187 rfl rfl) (nw3 194 rfl rfl) ?_
  intro qq
  refine gq_astore_n hX dL_describeMotion_12 rfl rfl (Nat.le_of_ble_eq_true rfl) rfl ?_
  refine gq_iconst (v := nI 1) hX dL_describeMotion_13 rfl (by decide) ?_
  exact gq_iret hX hQ dL_describeMotion_14 rfl ⟨rfl, K1, hW1, hR⟩

set_option maxRecDepth 100000 in
set_option maxHeartbeats 4000000 in
theorem wl_lineAt_ok {E : Ev} {b : Nat → Nat} {K : Kt} {M : Hp} (hb : Lay E 162 b) (hW : Wd E b K M) {p0 : Int32} {r : Int32} {R : Kt → Prop} {mc ms : Nat} (h1 : mc ≤ 23) (h2 : ms ≤ 3266) (h : Ct E mX4_lineAt [.ref (b 0), .int p0] M (RsC E b (.int r) R) mc ms) : CtH E mL_lineAt [.ref (b 0), .int p0, .ref (b 160)] M (RsC E b (.int (nI 0)) (LoR R r.toInt64)) 23 3266 := by
  refine CtH.of gmL_lineAt (ls := [.ref (b 0), .int p0, .ref (b 160), hole]) rfl rfl (Nat.le_of_ble_eq_true rfl) ?_
  intro X hX Q hQ
  refine gq_bud (nc1 := mc) (ns1 := ms) h1 h2 ?_
  refine gq_aload_n hX dL_lineAt_0 rfl rfl rfl ?_
  refine gq_iconst (v := nI 0) hX dL_lineAt_1 rfl (by decide) ?_
  refine gq_aload_n hX dL_lineAt_2 rfl rfl rfl ?_
  refine gq_iload_n hX dL_lineAt_3 rfl rfl rfl ?_
  refine gq_callV (nc1 := 0) (ns1 := 0) hX dL_lineAt_4 vL_144 h rfl hW.c0 rfl rfl (Nat.le_of_ble_eq_true rfl) ⟨(Nat.le_of_ble_eq_true rfl), (Nat.le_of_ble_eq_true rfl)⟩ rfl rfl ?_
  rintro v M1 ⟨rfl, K1, hW1, hR⟩
  refine gq_i2l hX dL_lineAt_7 rfl ?_
  refine gq_last hX dL_lineAt_8 rfl hW1.lo (vp_in_nI (by decide) (by decide)) (hb.2 160 (by decide)) rfl ?_
  have hW2 := hW1.wlo hb (vp_updL K1.2.2.2.2.2.2.1 (nI 0).toNatClampNeg r.toInt64)
  refine gq_goto (tgt := 15) hX dL_lineAt_9 rfl ?_
  refine gq_iconst (v := nI 0) hX dL_lineAt_15 rfl (by decide) ?_
  exact gq_iret hX hQ dL_lineAt_16 rfl ⟨rfl, _, hW2, K1, _, hR, rfl, rfl⟩

set_option maxRecDepth 100000 in
set_option maxHeartbeats 4000000 in
theorem wl_lineAt_1 {E : Ev} {b : Nat → Nat} {K : Kt} {M : Hp} (hb : Lay E 162 b) (hW : Wd E b K M) {p0 : Int32} {R : Kt → Prop} {mc ms : Nat} (h1 : mc ≤ 23) (h2 : ms ≤ 3266) (h : CtX E mX4_lineAt [.ref (b 0), .int p0] M NoR (ThC E b "java/lang/IndexOutOfBoundsException" R) mc ms) : CtH E mL_lineAt [.ref (b 0), .int p0, .ref (b 160)] M (RsC E b (.int (nI 1)) R) 23 3266 := by
  refine CtH.of gmL_lineAt (ls := [.ref (b 0), .int p0, .ref (b 160), hole]) rfl rfl (Nat.le_of_ble_eq_true rfl) ?_
  intro X hX Q hQ
  refine gq_bud (nc1 := mc) (ns1 := ms) h1 h2 ?_
  refine gq_aload_n hX dL_lineAt_0 rfl rfl rfl ?_
  refine gq_iconst (v := nI 0) hX dL_lineAt_1 rfl (by decide) ?_
  refine gq_aload_n hX dL_lineAt_2 rfl rfl rfl ?_
  refine gq_iload_n hX dL_lineAt_3 rfl rfl rfl ?_
  refine gq_callVX (nc1 := 0) (ns1 := 0) hX dL_lineAt_4 vL_144 h rfl hW.c0 rfl rfl (Nat.le_of_ble_eq_true rfl) ⟨(Nat.le_of_ble_eq_true rfl), (Nat.le_of_ble_eq_true rfl)⟩ rfl rfl (fun v M1 z => z.elim) ?_
  rintro y M1 ⟨rfl, K1, hW1, hR⟩
  refine gx_catch hX (nm := "java/lang/IndexOutOfBoundsException") [] { startPc := 0, endPc := 9, handlerPc := 12, catchType := 24 } [] rfl (fun y hy => nomatch hy) (by decide) (by decide) (in3 54 rfl rfl) (nw2 101 rfl rfl) ?_
  intro qq
  refine gq_astore_n hX dL_lineAt_12 rfl rfl (Nat.le_of_ble_eq_true rfl) rfl ?_
  refine gq_iconst (v := nI 1) hX dL_lineAt_13 rfl (by decide) ?_
  exact gq_iret hX hQ dL_lineAt_14 rfl ⟨rfl, K1, hW1, hR⟩

set_option maxRecDepth 100000 in
set_option maxHeartbeats 4000000 in
theorem wl_meanArrears_ok {E : Ev} {b : Nat → Nat} {K : Kt} {M : Hp} (hb : Lay E 162 b) (hW : Wd E b K M) {r : UInt64} {R : Kt → Prop} {mc ms : Nat} (h1 : mc ≤ 23) (h2 : ms ≤ 3266) (h : Ct E mX4_meanArrears [.ref (b 0)] M (RsC E b (.double r) R) mc ms) : CtH E mL_meanArrears [.ref (b 0), .ref (b 161)] M (RsC E b (.int (nI 0)) (DoR R r)) 23 3266 := by
  refine CtH.of gmL_meanArrears (ls := [.ref (b 0), .ref (b 161), hole]) rfl rfl (Nat.le_of_ble_eq_true rfl) ?_
  intro X hX Q hQ
  refine gq_bud (nc1 := mc) (ns1 := ms) h1 h2 ?_
  refine gq_aload_n hX dL_meanArrears_0 rfl rfl rfl ?_
  refine gq_iconst (v := nI 0) hX dL_meanArrears_1 rfl (by decide) ?_
  refine gq_aload_n hX dL_meanArrears_2 rfl rfl rfl ?_
  refine gq_callV (nc1 := 0) (ns1 := 0) hX dL_meanArrears_3 vL_148 h rfl hW.c0 rfl rfl (Nat.le_of_ble_eq_true rfl) ⟨(Nat.le_of_ble_eq_true rfl), (Nat.le_of_ble_eq_true rfl)⟩ rfl rfl ?_
  rintro v M1 ⟨rfl, K1, hW1, hR⟩
  refine gq_dast hX dL_meanArrears_6 rfl hW1.dq (vp_in_nI (by decide) (by decide)) (hb.2 161 (by decide)) rfl ?_
  have hW2 := hW1.wdo hb (vf_upd K1.2.2.2.2.2.2.2 (nI 0).toNatClampNeg r)
  refine gq_goto (tgt := 13) hX dL_meanArrears_7 rfl ?_
  refine gq_iconst (v := nI 0) hX dL_meanArrears_13 rfl (by decide) ?_
  exact gq_iret hX hQ dL_meanArrears_14 rfl ⟨rfl, _, hW2, K1, _, hR, rfl, rfl⟩

set_option maxRecDepth 100000 in
set_option maxHeartbeats 4000000 in
theorem wl_meanArrears_1 {E : Ev} {b : Nat → Nat} {K : Kt} {M : Hp} (hb : Lay E 162 b) (hW : Wd E b K M) {R : Kt → Prop} {mc ms : Nat} (h1 : mc ≤ 23) (h2 : ms ≤ 3266) (h : CtX E mX4_meanArrears [.ref (b 0)] M NoR (ThC E b "java/lang/ArithmeticException" R) mc ms) : CtH E mL_meanArrears [.ref (b 0), .ref (b 161)] M (RsC E b (.int (nI 1)) R) 23 3266 := by
  refine CtH.of gmL_meanArrears (ls := [.ref (b 0), .ref (b 161), hole]) rfl rfl (Nat.le_of_ble_eq_true rfl) ?_
  intro X hX Q hQ
  refine gq_bud (nc1 := mc) (ns1 := ms) h1 h2 ?_
  refine gq_aload_n hX dL_meanArrears_0 rfl rfl rfl ?_
  refine gq_iconst (v := nI 0) hX dL_meanArrears_1 rfl (by decide) ?_
  refine gq_aload_n hX dL_meanArrears_2 rfl rfl rfl ?_
  refine gq_callVX (nc1 := 0) (ns1 := 0) hX dL_meanArrears_3 vL_148 h rfl hW.c0 rfl rfl (Nat.le_of_ble_eq_true rfl) ⟨(Nat.le_of_ble_eq_true rfl), (Nat.le_of_ble_eq_true rfl)⟩ rfl rfl (fun v M1 z => z.elim) ?_
  rintro y M1 ⟨rfl, K1, hW1, hR⟩
  refine gx_catch hX (nm := "java/lang/ArithmeticException") [] { startPc := 0, endPc := 7, handlerPc := 10, catchType := 152 } [] rfl (fun y hy => nomatch hy) (by decide) (by decide) (in6 217 rfl rfl) (nw6 229 rfl rfl) ?_
  intro qq
  refine gq_astore_n hX dL_meanArrears_10 rfl rfl (Nat.le_of_ble_eq_true rfl) rfl ?_
  refine gq_iconst (v := nI 1) hX dL_meanArrears_11 rfl (by decide) ?_
  exact gq_iret hX hQ dL_meanArrears_12 rfl ⟨rfl, K1, hW1, hR⟩

set_option maxRecDepth 100000 in
set_option maxHeartbeats 4000000 in
theorem wl_rentedShare_ok {E : Ev} {b : Nat → Nat} {K : Kt} {M : Hp} (hb : Lay E 162 b) (hW : Wd E b K M) {r : UInt32} {R : Kt → Prop} {mc ms : Nat} (h1 : mc ≤ 23) (h2 : ms ≤ 3266) (h : Ct E mX4_rentedShare [.ref (b 0)] M (RsC E b (.float r) R) mc ms) (hn : vf_n64 (FP.f2d r)) : CtH E mL_rentedShare [.ref (b 0), .ref (b 161)] M (RsC E b (.int (nI 0)) (DoR R (FP.f2d r))) 23 3266 := by
  refine CtH.of gmL_rentedShare (ls := [.ref (b 0), .ref (b 161), hole]) rfl rfl (Nat.le_of_ble_eq_true rfl) ?_
  intro X hX Q hQ
  refine gq_bud (nc1 := mc) (ns1 := ms) h1 h2 ?_
  refine gq_aload_n hX dL_rentedShare_0 rfl rfl rfl ?_
  refine gq_iconst (v := nI 0) hX dL_rentedShare_1 rfl (by decide) ?_
  refine gq_aload_n hX dL_rentedShare_2 rfl rfl rfl ?_
  refine gq_callV (nc1 := 0) (ns1 := 0) hX dL_rentedShare_3 vL_154 h rfl hW.c0 rfl rfl (Nat.le_of_ble_eq_true rfl) ⟨(Nat.le_of_ble_eq_true rfl), (Nat.le_of_ble_eq_true rfl)⟩ rfl rfl ?_
  rintro v M1 ⟨rfl, K1, hW1, hR⟩
  refine gq_f2d hX dL_rentedShare_6 rfl hn ?_
  refine gq_dast hX dL_rentedShare_7 rfl hW1.dq (vp_in_nI (by decide) (by decide)) (hb.2 161 (by decide)) rfl ?_
  have hW2 := hW1.wdo hb (vf_upd K1.2.2.2.2.2.2.2 (nI 0).toNatClampNeg (FP.f2d r))
  refine gq_goto (tgt := 14) hX dL_rentedShare_8 rfl ?_
  refine gq_iconst (v := nI 0) hX dL_rentedShare_14 rfl (by decide) ?_
  exact gq_iret hX hQ dL_rentedShare_15 rfl ⟨rfl, _, hW2, K1, _, hR, rfl, rfl⟩

set_option maxRecDepth 100000 in
set_option maxHeartbeats 4000000 in
theorem wl_rentedShare_1 {E : Ev} {b : Nat → Nat} {K : Kt} {M : Hp} (hb : Lay E 162 b) (hW : Wd E b K M) {R : Kt → Prop} {mc ms : Nat} (h1 : mc ≤ 23) (h2 : ms ≤ 3266) (h : CtX E mX4_rentedShare [.ref (b 0)] M NoR (ThC E b "java/lang/ArithmeticException" R) mc ms) : CtH E mL_rentedShare [.ref (b 0), .ref (b 161)] M (RsC E b (.int (nI 1)) R) 23 3266 := by
  refine CtH.of gmL_rentedShare (ls := [.ref (b 0), .ref (b 161), hole]) rfl rfl (Nat.le_of_ble_eq_true rfl) ?_
  intro X hX Q hQ
  refine gq_bud (nc1 := mc) (ns1 := ms) h1 h2 ?_
  refine gq_aload_n hX dL_rentedShare_0 rfl rfl rfl ?_
  refine gq_iconst (v := nI 0) hX dL_rentedShare_1 rfl (by decide) ?_
  refine gq_aload_n hX dL_rentedShare_2 rfl rfl rfl ?_
  refine gq_callVX (nc1 := 0) (ns1 := 0) hX dL_rentedShare_3 vL_154 h rfl hW.c0 rfl rfl (Nat.le_of_ble_eq_true rfl) ⟨(Nat.le_of_ble_eq_true rfl), (Nat.le_of_ble_eq_true rfl)⟩ rfl rfl (fun v M1 z => z.elim) ?_
  rintro y M1 ⟨rfl, K1, hW1, hR⟩
  refine gx_catch hX (nm := "java/lang/ArithmeticException") [] { startPc := 0, endPc := 8, handlerPc := 11, catchType := 152 } [] rfl (fun y hy => nomatch hy) (by decide) (by decide) (in6 217 rfl rfl) (nw6 229 rfl rfl) ?_
  intro qq
  refine gq_astore_n hX dL_rentedShare_11 rfl rfl (Nat.le_of_ble_eq_true rfl) rfl ?_
  refine gq_iconst (v := nI 1) hX dL_rentedShare_12 rfl (by decide) ?_
  exact gq_iret hX hQ dL_rentedShare_13 rfl ⟨rfl, K1, hW1, hR⟩

set_option maxRecDepth 100000 in
set_option maxHeartbeats 4000000 in
theorem wl_undo_ok {E : Ev} {b : Nat → Nat} {K : Kt} {M : Hp} (hb : Lay E 162 b) (hW : Wd E b K M) {r : Int32} {R : Kt → Prop} {mc ms : Nat} (h1 : mc ≤ 23) (h2 : ms ≤ 3266) (h : Ct E mX4_undo [.ref (b 0)] M (RsC E b (.int r) R) mc ms) : CtH E mL_undo [.ref (b 0), .ref (b 160)] M (RsC E b (.int (nI 0)) (LoR R r.toInt64)) 23 3266 := by
  refine CtH.of gmL_undo (ls := [.ref (b 0), .ref (b 160), hole]) rfl rfl (Nat.le_of_ble_eq_true rfl) ?_
  intro X hX Q hQ
  refine gq_bud (nc1 := mc) (ns1 := ms) h1 h2 ?_
  refine gq_aload_n hX dL_undo_0 rfl rfl rfl ?_
  refine gq_iconst (v := nI 0) hX dL_undo_1 rfl (by decide) ?_
  refine gq_aload_n hX dL_undo_2 rfl rfl rfl ?_
  refine gq_callV (nc1 := 0) (ns1 := 0) hX dL_undo_3 vL_158 h rfl hW.c0 rfl rfl (Nat.le_of_ble_eq_true rfl) ⟨(Nat.le_of_ble_eq_true rfl), (Nat.le_of_ble_eq_true rfl)⟩ rfl rfl ?_
  rintro v M1 ⟨rfl, K1, hW1, hR⟩
  refine gq_i2l hX dL_undo_6 rfl ?_
  refine gq_last hX dL_undo_7 rfl hW1.lo (vp_in_nI (by decide) (by decide)) (hb.2 160 (by decide)) rfl ?_
  have hW2 := hW1.wlo hb (vp_updL K1.2.2.2.2.2.2.1 (nI 0).toNatClampNeg r.toInt64)
  refine gq_goto (tgt := 14) hX dL_undo_8 rfl ?_
  refine gq_iconst (v := nI 0) hX dL_undo_14 rfl (by decide) ?_
  exact gq_iret hX hQ dL_undo_15 rfl ⟨rfl, _, hW2, K1, _, hR, rfl, rfl⟩

set_option maxRecDepth 100000 in
set_option maxHeartbeats 4000000 in
theorem wl_undo_1 {E : Ev} {b : Nat → Nat} {K : Kt} {M : Hp} (hb : Lay E 162 b) (hW : Wd E b K M) {R : Kt → Prop} {mc ms : Nat} (h1 : mc ≤ 23) (h2 : ms ≤ 3266) (h : CtX E mX4_undo [.ref (b 0)] M NoR (ThC E b "java/lang/IllegalStateException" R) mc ms) : CtH E mL_undo [.ref (b 0), .ref (b 160)] M (RsC E b (.int (nI 1)) R) 23 3266 := by
  refine CtH.of gmL_undo (ls := [.ref (b 0), .ref (b 160), hole]) rfl rfl (Nat.le_of_ble_eq_true rfl) ?_
  intro X hX Q hQ
  refine gq_bud (nc1 := mc) (ns1 := ms) h1 h2 ?_
  refine gq_aload_n hX dL_undo_0 rfl rfl rfl ?_
  refine gq_iconst (v := nI 0) hX dL_undo_1 rfl (by decide) ?_
  refine gq_aload_n hX dL_undo_2 rfl rfl rfl ?_
  refine gq_callVX (nc1 := 0) (ns1 := 0) hX dL_undo_3 vL_158 h rfl hW.c0 rfl rfl (Nat.le_of_ble_eq_true rfl) ⟨(Nat.le_of_ble_eq_true rfl), (Nat.le_of_ble_eq_true rfl)⟩ rfl rfl (fun v M1 z => z.elim) ?_
  rintro y M1 ⟨rfl, K1, hW1, hR⟩
  refine gx_catch hX (nm := "java/lang/IllegalStateException") [] { startPc := 0, endPc := 8, handlerPc := 11, catchType := 15 } [] rfl (fun y hy => nomatch hy) (by decide) (by decide) (in2 238 rfl rfl) (nw3 10 rfl rfl) ?_
  intro qq
  refine gq_astore_n hX dL_undo_11 rfl rfl (Nat.le_of_ble_eq_true rfl) rfl ?_
  refine gq_iconst (v := nI 1) hX dL_undo_12 rfl (by decide) ?_
  exact gq_iret hX hQ dL_undo_13 rfl ⟨rfl, K1, hW1, hR⟩

set_option maxRecDepth 100000 in
set_option maxHeartbeats 4000000 in
theorem wl_restore_ok {E : Ev} {b : Nat → Nat} {K : Kt} {M : Hp} (hb : Lay E 162 b) (hW : Wd E b K M) {r : Int32} {R : Kt → Prop} {mc ms : Nat} (h1 : mc ≤ 23) (h2 : ms ≤ 3266) (h : Ct E mX4_restore [.ref (b 0)] M (RsC E b (.int r) R) mc ms) : CtH E mL_restore [.ref (b 0), .ref (b 160)] M (RsC E b (.int (nI 0)) (LoR R r.toInt64)) 23 3266 := by
  refine CtH.of gmL_restore (ls := [.ref (b 0), .ref (b 160), hole]) rfl rfl (Nat.le_of_ble_eq_true rfl) ?_
  intro X hX Q hQ
  refine gq_bud (nc1 := mc) (ns1 := ms) h1 h2 ?_
  refine gq_aload_n hX dL_restore_0 rfl rfl rfl ?_
  refine gq_iconst (v := nI 0) hX dL_restore_1 rfl (by decide) ?_
  refine gq_aload_n hX dL_restore_2 rfl rfl rfl ?_
  refine gq_callV (nc1 := 0) (ns1 := 0) hX dL_restore_3 vL_161 h rfl hW.c0 rfl rfl (Nat.le_of_ble_eq_true rfl) ⟨(Nat.le_of_ble_eq_true rfl), (Nat.le_of_ble_eq_true rfl)⟩ rfl rfl ?_
  rintro v M1 ⟨rfl, K1, hW1, hR⟩
  refine gq_i2l hX dL_restore_6 rfl ?_
  refine gq_last hX dL_restore_7 rfl hW1.lo (vp_in_nI (by decide) (by decide)) (hb.2 160 (by decide)) rfl ?_
  have hW2 := hW1.wlo hb (vp_updL K1.2.2.2.2.2.2.1 (nI 0).toNatClampNeg r.toInt64)
  refine gq_goto (tgt := 14) hX dL_restore_8 rfl ?_
  refine gq_iconst (v := nI 0) hX dL_restore_14 rfl (by decide) ?_
  exact gq_iret hX hQ dL_restore_15 rfl ⟨rfl, _, hW2, K1, _, hR, rfl, rfl⟩

set_option maxRecDepth 100000 in
set_option maxHeartbeats 4000000 in
theorem wl_restore_1 {E : Ev} {b : Nat → Nat} {K : Kt} {M : Hp} (hb : Lay E 162 b) (hW : Wd E b K M) {R : Kt → Prop} {mc ms : Nat} (h1 : mc ≤ 23) (h2 : ms ≤ 3266) (h : CtX E mX4_restore [.ref (b 0)] M NoR (ThC E b "java/lang/IllegalStateException" R) mc ms) : CtH E mL_restore [.ref (b 0), .ref (b 160)] M (RsC E b (.int (nI 1)) R) 23 3266 := by
  refine CtH.of gmL_restore (ls := [.ref (b 0), .ref (b 160), hole]) rfl rfl (Nat.le_of_ble_eq_true rfl) ?_
  intro X hX Q hQ
  refine gq_bud (nc1 := mc) (ns1 := ms) h1 h2 ?_
  refine gq_aload_n hX dL_restore_0 rfl rfl rfl ?_
  refine gq_iconst (v := nI 0) hX dL_restore_1 rfl (by decide) ?_
  refine gq_aload_n hX dL_restore_2 rfl rfl rfl ?_
  refine gq_callVX (nc1 := 0) (ns1 := 0) hX dL_restore_3 vL_161 h rfl hW.c0 rfl rfl (Nat.le_of_ble_eq_true rfl) ⟨(Nat.le_of_ble_eq_true rfl), (Nat.le_of_ble_eq_true rfl)⟩ rfl rfl (fun v M1 z => z.elim) ?_
  rintro y M1 ⟨rfl, K1, hW1, hR⟩
  refine gx_catch hX (nm := "java/lang/IllegalStateException") [] { startPc := 0, endPc := 8, handlerPc := 11, catchType := 15 } [] rfl (fun y hy => nomatch hy) (by decide) (by decide) (in2 238 rfl rfl) (nw3 10 rfl rfl) ?_
  intro qq
  refine gq_astore_n hX dL_restore_11 rfl rfl (Nat.le_of_ble_eq_true rfl) rfl ?_
  refine gq_iconst (v := nI 1) hX dL_restore_12 rfl (by decide) ?_
  exact gq_iret hX hQ dL_restore_13 rfl ⟨rfl, K1, hW1, hR⟩

