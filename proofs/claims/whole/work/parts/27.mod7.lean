abbrev Ln : Type := (Nat → Nat) × Nat
def lnz : Ln := (fun _ => 0, 0)
def lnA (l : Ln) (c : Nat) : Ln := (sb_cat l.1 l.2 (fun _ => c), l.2 + 1)
def lnN (l : Ln) (v : Nat) : Ln := (sb_cat l.1 l.2 (sb_dec v), l.2 + sb_dg v)
/-- the reference's line after some writing -/
def LnQ (T T1 : St) (l : Ln) : Prop := (∀ k, k ≠ 4 → T1.1 k = T.1 k) ∧ (∀ k, k ≠ 6 → T1.2 k = T.2 k) ∧ T1.1 4 = nI l.2 ∧ ∀ i, i < l.2 → T1.2 6 i = nI (l.1 i)
def LnP (T : St) (l : Ln) : Prop := T.1 4 = nI l.2 ∧ ∀ i, i < l.2 → T.2 6 i = nI (l.1 i)
theorem LnQ.rf {T : St} {l : Ln} (h : LnP T l) : LnQ T T l := ⟨fun _ _ => rfl, fun _ _ => rfl, h.1, h.2⟩
theorem LnQ.p {T T1 : St} {l : Ln} (h : LnQ T T1 l) : LnP T1 l := ⟨h.2.2.1, h.2.2.2⟩
theorem LnQ.tr {T T1 T2 : St} {l l2 : Ln} (h : LnQ T T1 l) (h2 : LnQ T1 T2 l2) : LnQ T T2 l2 := ⟨fun k hk => (h2.1 k hk).trans (h.1 k hk), fun k hk => (h2.2.1 k hk).trans (h.2.1 k hk), h2.2.2⟩
theorem i2c_m {k : Nat} (h : k < 128) : ((nI k).toUInt32 % 65536).toInt32 = nI k := by
  have : ∀ q : Fin 128, ((nI q.1).toUInt32 % 65536).toInt32 = nI q.1 := by decide +kernel
  exact this ⟨k, h⟩
theorem vnc {k : Nat} (h : k < 128) : vp_nar .char (nI k) = nI k := by
  have : ∀ q : Fin 128, vp_nar .char (nI q.1) = nI q.1 := by decide +kernel
  exact this ⟨k, h⟩
def LnR (E : Ev) (b : Nat → Nat) (T : St) (w : Nat → Int32) (M : Hp) (l : Ln) : Option Value → Hp → Prop := fun r M1 => r = none ∧ ∃ T1, M1 = MdW E b T1 w M ∧ LnQ T T1 l

set_option maxRecDepth 100000 in
set_option maxHeartbeats 4000000 in
theorem mt_writes {E : Ev} {b : Nat → Nat} {T : St} {w : Nat → Int32} {M : Hp} (hb : Lay E 9 b) {l : Ln} (hl : LnP T l) {c : Nat} (hc : c < 128) (hn : l.2 < 60) : Ct E mX5_writes [.ref (b 0), .int (nI c)] (MdW E b T w M) (LnR E b T w M (lnA l c)) 0 0 := by
  refine Ct.of gmX5_writes (ls := [.ref (b 0), .int (nI c)]) rfl rfl (Nat.le_of_ble_eq_true rfl) ?_
  intro X hX Q hQ
  obtain ⟨hl4, hl6⟩ := hl
  refine gq_aload_n hX dX5_writes_0 rfl rfl rfl ?_
  refine gq_getf hX dX5_writes_1 rfl fX5_25 (mqR0 hb) rfl ?_
  refine gq_aload_n hX dX5_writes_4 rfl rfl rfl ?_
  refine gq_getf hX dX5_writes_5 rfl fX5_223 (mqR0 hb) rfl ?_
  refine gq_iload_n hX dX5_writes_8 rfl rfl rfl ?_
  refine gq_i2c hX dX5_writes_9 rfl (i2c_m hc) ?_
  refine gq_castN hX dX5_writes_10 rfl (mqR6 hb) hl4 (by omega) (Nat.le_of_ble_eq_true rfl) (hb.2 6 (by decide)) (mqW6 hb) ?_
  rw [vnc hc]
  refine gq_aload_n hX dX5_writes_11 rfl rfl rfl ?_
  refine gq_dup hX dX5_writes_12 rfl rfl ?_
  refine gq_getf hX dX5_writes_13 rfl fX5_223 (mqR0 hb) rfl ?_
  refine gq_iconst (v := nI 1) hX dX5_writes_16 rfl (by decide) ?_
  refine gq_iadd hX dX5_writes_17 rfl ?_
  rw [show (setA T 6 (upd (T.2 6) l.2 (nI c))).1 4 = nI l.2 from hl4, inM]
  refine gq_putf hX dX5_writes_18 rfl fX5_223 rfl rfl rfl (mqR0 hb) (Nat.le_of_ble_eq_true rfl) (hb.2 0 (by decide)) (mqW0_10 hb) ?_
  refine gq_vret hX hQ dX5_writes_21 rfl ⟨rfl, _, rfl, fun k hk => setS_off hk, fun k hk => setA_off hk, rfl, fun i hi => ?_⟩
  show (setA T 6 (upd (T.2 6) l.2 (nI c))).2 6 i = nI (sb_cat l.1 l.2 (fun _ => c) i)
  rw [setA_at]
  have hi2 : i < l.2 + 1 := hi
  by_cases e : i = l.2
  · subst e
    rw [upd_s]
    unfold sb_cat
    rw [if_neg (Nat.lt_irrefl _)]
  · rw [upd_n _ e, sb_cat_lo (by omega)]
    exact hl6 i (by omega)

theorem div10 {w i : Nat} (hw : w < 2 ^ 31) (hi : i ≤ 8) : nI w / nI (10 ^ i) = nI (w / 10 ^ i) := pk_div hw (Nat.pow_pos (by decide)) (by have := p10_le hi; omega)
theorem sb_decat {t : Nat → Nat} {n w i : Nat} : sb_cat t n (sb_dec w) (n + i) = 48 + w / 10 ^ (sb_dg w - 1 - i) % 10 := sb_cat_hi

set_option maxRecDepth 100000 in
set_option maxHeartbeats 4000000 in
theorem mt_writesN {E : Ev} {b : Nat → Nat} {T : St} {w : Nat → Int32} {M : Hp} (hb : Lay E 9 b) {l : Ln} (hl : LnP T l) {w0 : Nat} (hw : w0 < 100000000) (hn : l.2 + sb_dg w0 ≤ 60) : Ct E mX5_writesNumber [.ref (b 0), .int (nI w0)] (MdW E b T w M) (LnR E b T w M (lnN l w0)) 0 0 := by
  refine Ct.of gmX5_writesNumber (ls := [.ref (b 0), .int (nI w0), hole, hole]) rfl rfl (Nat.le_of_ble_eq_true rfl) ?_
  intro X hX Q hQ
  refine gq_iconst (v := nI 1) hX dX5_writesNumber_0 rfl (by decide) ?_
  refine gq_istore_n hX dX5_writesNumber_1 rfl rfl (Nat.le_of_ble_eq_true rfl) rfl ?_
  have hd := sb_dg_in w0
  have hd8 : sb_dg w0 ≤ 8 := by unfold sb_dg; (repeat' split) <;> omega
  have l3 : ∀ (T1 : St) (z : Int32), LnQ T T1 (lnN l w0) → Gq E X mX5_writesNumber Q 20 [.ref (b 0), .int (nI w0), .int z, .int (nI 0)] [] (MdW E b T1 w M) 0 0 := by
    intro T1 z h1
    refine gq_iload_n hX dX5_writesNumber_20 rfl rfl rfl ?_
    refine gq_if_leT (tgt := 45) hX dX5_writesNumber_21 rfl (by decide) ?_
    exact gq_vret hX hQ dX5_writesNumber_45 rfl ⟨rfl, T1, rfl, h1⟩
  have l2 : ∀ (e i : Nat) (T1 : St) (z : Int32), i + e + 1 = sb_dg w0 → LnQ T T1 ((lnN l w0).1, l.2 + i) → Gq E X mX5_writesNumber Q 20 [.ref (b 0), .int (nI w0), .int z, .int (nI (10 ^ e))] [] (MdW E b T1 w M) 0 0 := by
    intro e
    induction e with
    | zero =>
      intro i T1 z hi h1
      have hp : 0 < 10 ^ 0 := Nat.pow_pos (by decide)
      have hp8 := p10_le (i := 0) (by omega)
      have hdig : (lnN l w0).1 (l.2 + i) = 48 + w0 / 10 ^ 0 % 10 := by
        show sb_cat l.1 l.2 (sb_dec w0) (l.2 + i) = _
        rw [sb_decat, show sb_dg w0 - 1 - i = 0 by omega]
      refine gq_iload_n hX dX5_writesNumber_20 rfl rfl rfl ?_
      refine gq_if_leF (tgt := 45) hX dX5_writesNumber_21 rfl rfl (nI_nle hp (by omega)) ?_
      refine gq_aload_n hX dX5_writesNumber_24 rfl rfl rfl ?_
      refine gq_bipush (v := nI 48) hX dX5_writesNumber_25 rfl (by decide) ?_
      refine gq_iload_n hX dX5_writesNumber_27 rfl rfl rfl ?_
      refine gq_iload_n hX dX5_writesNumber_28 rfl rfl rfl ?_
      refine gq_idiv hX dX5_writesNumber_29 rfl (fun e0 => by have := (nI_eq (by omega) (by decide)).mp (show nI (10 ^ 0) = nI 0 from e0); omega) ?_
      rw [div10 (by omega) (by omega)]
      refine gq_bipush (v := nI 10) hX dX5_writesNumber_30 rfl (by decide) ?_
      refine gq_irem hX dX5_writesNumber_32 rfl (by decide) ?_
      rw [pk_rem (Nat.lt_of_le_of_lt (Nat.div_le_self _ _) (by omega)) (by decide) (by decide)]
      refine gq_iadd hX dX5_writesNumber_33 rfl ?_
      rw [nI_add, ← hdig]
      refine gq_callV (mc := 0) (ms := 0) (nc1 := 0) (ns1 := 0) hX dX5_writesNumber_34 vX5_226 (mt_writes hb h1.p (by rw [hdig]; omega) (show l.2 + i < 60 by omega)) rfl (mqR0 hb) rfl rfl (Nat.le_of_ble_eq_true rfl) ⟨(Nat.le_of_ble_eq_true rfl), (Nat.le_of_ble_eq_true rfl)⟩ rfl rfl ?_
      rintro r M1 ⟨rfl, T2, rfl, h2⟩
      have h3 : LnQ T T2 ((lnN l w0).1, l.2 + (i + 1)) := by
        obtain ⟨g1, g2, g3, g4⟩ := h1.tr h2
        refine ⟨g1, g2, g3, fun q hq => (g4 q hq).trans (congrArg nI ?_)⟩
        show sb_cat (lnN l w0).1 (l.2 + i) (fun _ => (lnN l w0).1 (l.2 + i)) q = (lnN l w0).1 q
        have hq2 : q < l.2 + i + 1 := hq
        by_cases e9 : q = l.2 + i
        · subst e9
          unfold sb_cat
          rw [if_neg (Nat.lt_irrefl _)]
        · exact sb_cat_lo (by omega)
      refine gq_iload_n hX dX5_writesNumber_37 rfl rfl rfl ?_
      refine gq_bipush (v := nI 10) hX dX5_writesNumber_38 rfl (by decide) ?_
      refine gq_idiv hX dX5_writesNumber_40 rfl (by decide) ?_
      rw [show nI (10 ^ 0) / nI 10 = nI 0 from by decide]
      refine gq_istore_n hX dX5_writesNumber_41 rfl rfl (Nat.le_of_ble_eq_true rfl) rfl ?_
      refine gq_goto (tgt := 20) hX dX5_writesNumber_42 rfl ?_
      rw [show l.2 + (i + 1) = (lnN l w0).2 from by show _ = l.2 + sb_dg w0; omega] at h3
      exact l3 T2 _ h3
    | succ e ih =>
      intro i T1 z hi h1
      have hp : 0 < 10 ^ (e + 1) := Nat.pow_pos (by decide)
      have hp8 := p10_le (i := (e + 1)) (by omega)
      have hdig : (lnN l w0).1 (l.2 + i) = 48 + w0 / 10 ^ (e + 1) % 10 := by
        show sb_cat l.1 l.2 (sb_dec w0) (l.2 + i) = _
        rw [sb_decat, show sb_dg w0 - 1 - i = (e + 1) by omega]
      refine gq_iload_n hX dX5_writesNumber_20 rfl rfl rfl ?_
      refine gq_if_leF (tgt := 45) hX dX5_writesNumber_21 rfl rfl (nI_nle hp (by omega)) ?_
      refine gq_aload_n hX dX5_writesNumber_24 rfl rfl rfl ?_
      refine gq_bipush (v := nI 48) hX dX5_writesNumber_25 rfl (by decide) ?_
      refine gq_iload_n hX dX5_writesNumber_27 rfl rfl rfl ?_
      refine gq_iload_n hX dX5_writesNumber_28 rfl rfl rfl ?_
      refine gq_idiv hX dX5_writesNumber_29 rfl (fun e0 => by have := (nI_eq (by omega) (by decide)).mp (show nI (10 ^ (e + 1)) = nI 0 from e0); omega) ?_
      rw [div10 (by omega) (by omega)]
      refine gq_bipush (v := nI 10) hX dX5_writesNumber_30 rfl (by decide) ?_
      refine gq_irem hX dX5_writesNumber_32 rfl (by decide) ?_
      rw [pk_rem (Nat.lt_of_le_of_lt (Nat.div_le_self _ _) (by omega)) (by decide) (by decide)]
      refine gq_iadd hX dX5_writesNumber_33 rfl ?_
      rw [nI_add, ← hdig]
      refine gq_callV (mc := 0) (ms := 0) (nc1 := 0) (ns1 := 0) hX dX5_writesNumber_34 vX5_226 (mt_writes hb h1.p (by rw [hdig]; omega) (show l.2 + i < 60 by omega)) rfl (mqR0 hb) rfl rfl (Nat.le_of_ble_eq_true rfl) ⟨(Nat.le_of_ble_eq_true rfl), (Nat.le_of_ble_eq_true rfl)⟩ rfl rfl ?_
      rintro r M1 ⟨rfl, T2, rfl, h2⟩
      have h3 : LnQ T T2 ((lnN l w0).1, l.2 + (i + 1)) := by
        obtain ⟨g1, g2, g3, g4⟩ := h1.tr h2
        refine ⟨g1, g2, g3, fun q hq => (g4 q hq).trans (congrArg nI ?_)⟩
        show sb_cat (lnN l w0).1 (l.2 + i) (fun _ => (lnN l w0).1 (l.2 + i)) q = (lnN l w0).1 q
        have hq2 : q < l.2 + i + 1 := hq
        by_cases e9 : q = l.2 + i
        · subst e9
          unfold sb_cat
          rw [if_neg (Nat.lt_irrefl _)]
        · exact sb_cat_lo (by omega)
      refine gq_iload_n hX dX5_writesNumber_37 rfl rfl rfl ?_
      refine gq_bipush (v := nI 10) hX dX5_writesNumber_38 rfl (by decide) ?_
      refine gq_idiv hX dX5_writesNumber_40 rfl (by decide) ?_
      rw [pk_div (by omega) (by decide) (by decide), Nat.pow_succ, Nat.mul_div_cancel _ (by decide)]
      refine gq_istore_n hX dX5_writesNumber_41 rfl rfl (Nat.le_of_ble_eq_true rfl) rfl ?_
      refine gq_goto (tgt := 20) hX dX5_writesNumber_42 rfl ?_
      exact ih (i + 1) T2 _ (by omega) h3
  have l1 : ∀ k i : Nat, i + k = 8 → (i = 0 ∨ 10 ^ i ≤ w0) → Gq E X mX5_writesNumber Q 2 [.ref (b 0), .int (nI w0), .int (nI (10 ^ i)), hole] [] (MdW E b T w M) 0 0 := by
    intro k
    induction k with
    | zero =>
      intro i hi h
      have e : i = 8 := by omega
      subst e
      have h3 : 100000000 ≤ w0 := h.resolve_left (by decide)
      omega
    | succ k ih =>
      intro i hi h
      have hp : 0 < 10 ^ i := Nat.pow_pos (by decide)
      have hp8 := p10_le (i := i) (by omega)
      have hp9 := p10_le (i := i + 1) (by omega)
      have hps : 10 ^ (i + 1) = 10 ^ i * 10 := Nat.pow_succ ..
      refine gq_iload_n hX dX5_writesNumber_2 rfl rfl rfl ?_
      refine gq_iload_n hX dX5_writesNumber_3 rfl rfl rfl ?_
      refine gq_idiv hX dX5_writesNumber_4 rfl (fun e => by have := (nI_eq (by omega) (by decide)).mp (show nI (10 ^ i) = nI 0 from e); omega) ?_
      rw [div10 (by omega) (by omega)]
      refine gq_bipush (v := nI 9) hX dX5_writesNumber_5 rfl (by decide) ?_
      by_cases h9 : 10 ^ (i + 1) ≤ w0
      · have h10 : 10 ≤ w0 / 10 ^ i := (Nat.le_div_iff_mul_le hp).mpr (by omega)
        have h11 : w0 / 10 ^ i ≤ w0 := Nat.div_le_self _ _
        refine gq_icmp_leF (tgt := 18) hX dX5_writesNumber_7 rfl rfl (nI_ge (by omega) (by omega)) ?_
        refine gq_iload_n hX dX5_writesNumber_10 rfl rfl rfl ?_
        refine gq_bipush (v := nI 10) hX dX5_writesNumber_11 rfl (by decide) ?_
        refine gq_imul hX dX5_writesNumber_13 rfl ?_
        rw [nI_m, ← hps]
        refine gq_istore_n hX dX5_writesNumber_14 rfl rfl (Nat.le_of_ble_eq_true rfl) rfl ?_
        refine gq_goto (tgt := 2) hX dX5_writesNumber_15 rfl ?_
        exact ih (i + 1) (by omega) (Or.inr h9)
      · have h10 : w0 / 10 ^ i < 10 := (Nat.div_lt_iff_lt_mul hp).mpr (by omega)
        refine gq_icmp_leT (tgt := 18) hX dX5_writesNumber_7 rfl (nI_le (by omega) (by omega)) ?_
        have hdg : sb_dg w0 = i + 1 := dg_at (by omega) (by omega) (h.imp (fun e => by omega) (fun e => by rw [Nat.add_sub_cancel]; exact e)) (by omega)
        refine gq_iload_n hX dX5_writesNumber_18 rfl rfl rfl ?_
        refine gq_istore_n hX dX5_writesNumber_19 rfl rfl (Nat.le_of_ble_eq_true rfl) rfl ?_
        refine l2 i 0 T _ (by omega) ⟨fun _ _ => rfl, fun _ _ => rfl, hl.1, fun q hq => ?_⟩
        have hq2 : q < l.2 := hq
        rw [hl.2 q hq2]
        exact congrArg nI (sb_cat_lo hq2).symm
  exact l1 8 0 rfl (Or.inl rfl)

theorem LnQ.start {T : St} : LnQ T (setS T 4 (nI 0)) lnz := ⟨fun k hk => setS_off hk, fun _ _ => rfl, rfl, fun i hi => absurd hi (Nat.not_lt_zero i)⟩
/-- what is written of a committee, ahead of its tails -/
def desH (S : St) (j : Nat) : Ln := if S.2 2 j ≤ 0 then lnA (lnN (lnA (lnN lnz j) 47) (S.2 1 j).toNatClampNeg) (if S.2 3 j = 0 then 95 else 94) else lnN (lnA (lnA (lnN (lnA (lnN lnz j) 47) (S.2 1 j).toNatClampNeg) (if S.2 3 j = 0 then 95 else 94)) 45) (S.2 2 j).toNatClampNeg
def desC (S : St) (nt j : Nat) : Ln := it (fun t l => if S.2 5 t = nI j then lnN (lnA l 126) t else l) (desH S j) nt
theorem dg1 {n : Nat} (h : n < 10) : sb_dg n = 1 := if_pos h
theorem dg_le8 {n : Nat} (h : n < 100000000) : sb_dg n ≤ 8 := by unfold sb_dg; (repeat' split) <;> omega
theorem desC_n {S : St} {j : Nat} {n : Nat} (hn : n ≤ 8) : (desC S n j).2 ≤ (desH S j).2 + 2 * n := by
  induction n with
  | zero => exact Nat.le_refl _
  | succ n ih =>
    have ih := ih (by omega)
    show (if S.2 5 n = nI j then lnN (lnA (desC S n j) 126) n else desC S n j).2 ≤ _
    split
    · show (desC S n j).2 + 1 + sb_dg n ≤ _
      rw [dg1 (by omega)]
      omega
    · omega
theorem desH_n {S : St} {j m a : Nat} (hj : j < 6) (hm : S.2 1 j = nI m) (hm9 : m < 10) (ha : S.2 2 j = nI a) (ha8 : a < 100000000) : (desH S j).2 ≤ 13 := by
  have h1 : sb_dg j = 1 := dg1 (by omega)
  have h2 : sb_dg (S.2 1 j).toNatClampNeg = 1 := by rw [hm, nI_clamp (by omega)]; exact dg1 hm9
  have h3 : sb_dg (S.2 2 j).toNatClampNeg ≤ 8 := by rw [ha, nI_clamp (by omega)]; exact dg_le8 ha8
  unfold desH
  split
  · show 0 + sb_dg j + 1 + sb_dg (S.2 1 j).toNatClampNeg + 1 ≤ 13
    omega
  · show 0 + sb_dg j + 1 + sb_dg (S.2 1 j).toNatClampNeg + 1 + 1 + sb_dg (S.2 2 j).toNatClampNeg ≤ 13
    omega

set_option maxRecDepth 100000 in
set_option maxHeartbeats 4000000 in
theorem mr_desC_ok {E : Ev} {b : Nat → Nat} {T : St} {M : Hp} (hb : Lay E 9 b) {S : St} {nc nt no : Nat} (hwf : Wf S nc nt no) (hn : Nar S) {j m a : Nat} (hj : j < nc) (hm : S.2 1 j = nI m) (hm9 : m < 10) (ha : S.2 2 j = nI a) (ha8 : a < 100000000) : Ct E mX5_describeCommittee [.ref (b 0), .int (nI j)] (MdW E b T (wOf S nc nt no) M) (fun r M1 => r = some (.int (nI (desC S nt j).2)) ∧ ∃ T1, M1 = MdW E b T1 (wOf S nc nt no) M ∧ LnQ (setS T 0 (nI 0)) T1 (desC S nt j)) 0 0 := by
  refine Ct.of gmX5_describeCommittee (ls := [.ref (b 0), .int (nI j), hole]) rfl rfl (Nat.le_of_ble_eq_true rfl) ?_
  intro X hX Q hQ
  have hwf2 := hwf
  obtain ⟨hnc, hncl, hnt, hntl, hno, hnol⟩ := hwf2
  have hw0 : wOf S nc nt no 0 = nI nc := hnc
  have hw1 : wOf S nc nt no 1 = nI nt := hnt
  have hw2 : wOf S nc nt no 2 = nI no := hno
  have hcj : (nI j).toNatClampNeg = j := nI_clamp (by omega)
  have hmc : (S.2 1 j).toNatClampNeg = m := by rw [hm]; exact nI_clamp (by omega)
  have hac : (S.2 2 j).toNatClampNeg = a := by rw [ha]; exact nI_clamp (by omega)
  have hda := dg_le8 ha8
  have h1 : sb_dg j = 1 := dg1 (by omega)
  have h2 : sb_dg m = 1 := dg1 hm9
  refine gq_aload_n hX dX5_describeCommittee_0 rfl rfl rfl ?_
  refine gq_iconst (v := nI 0) hX dX5_describeCommittee_1 rfl (by decide) ?_
  refine gq_putf hX dX5_describeCommittee_2 rfl fX5_42 rfl rfl rfl (mqR0 hb) (Nat.le_of_ble_eq_true rfl) (hb.2 0 (by decide)) (mqW0_0 hb) ?_
  refine gq_aload_n hX dX5_describeCommittee_5 rfl rfl rfl ?_
  refine gq_iload_n hX dX5_describeCommittee_6 rfl rfl rfl ?_
  refine gq_callVe hX dX5_describeCommittee_7 rfl vX5_94 (mt_isCom hb hwf _) rfl (mqR0 hb) rfl rfl (Nat.le_of_ble_eq_true rfl) ⟨(Nat.le_of_ble_eq_true rfl), (Nat.le_of_ble_eq_true rfl)⟩ (Nat.zero_add _) (Nat.zero_add _) ?_
  refine gq_if_neT (tgt := 19) hX dX5_describeCommittee_10 rfl (by rw [hasI_yes hj (by omega)]; decide) ?_
  refine gq_aload_n hX dX5_describeCommittee_19 rfl rfl rfl ?_
  refine gq_iconst (v := nI 0) hX dX5_describeCommittee_20 rfl (by decide) ?_
  refine gq_putf hX dX5_describeCommittee_21 rfl fX5_223 rfl rfl rfl (mqR0 hb) (Nat.le_of_ble_eq_true rfl) (hb.2 0 (by decide)) (mqW0_10 hb) ?_
  refine gq_aload_n hX dX5_describeCommittee_24 rfl rfl rfl ?_
  refine gq_iload_n hX dX5_describeCommittee_25 rfl rfl rfl ?_
  have q0 : LnQ (setS T 0 (nI 0)) (setS (setS T 0 (nI 0)) 4 (nI 0)) lnz := LnQ.start
  refine gq_callV (mc := 0) (ms := 0) (nc1 := 0) (ns1 := 0) hX dX5_describeCommittee_26 vX5_229 (mt_writesN hb q0.p (w0 := j) (by omega) (show 0 + sb_dg j ≤ 60 by omega)) rfl (mqR0 hb) rfl rfl (Nat.le_of_ble_eq_true rfl) ⟨(Nat.le_of_ble_eq_true rfl), (Nat.le_of_ble_eq_true rfl)⟩ rfl rfl ?_
  rintro r M1 ⟨rfl, T1, rfl, p1⟩
  have q1 := q0.tr p1
  refine gq_aload_n hX dX5_describeCommittee_29 rfl rfl rfl ?_
  refine gq_bipush (v := nI 47) hX dX5_describeCommittee_30 rfl (by decide) ?_
  refine gq_callV (mc := 0) (ms := 0) (nc1 := 0) (ns1 := 0) hX dX5_describeCommittee_32 vX5_226 (mt_writes hb q1.p (c := 47) (by decide) (show 0 + sb_dg j < 60 by omega)) rfl (mqR0 hb) rfl rfl (Nat.le_of_ble_eq_true rfl) ⟨(Nat.le_of_ble_eq_true rfl), (Nat.le_of_ble_eq_true rfl)⟩ rfl rfl ?_
  rintro r M1 ⟨rfl, T2, rfl, p2⟩
  have q2 := q1.tr p2
  refine gq_aload_n hX dX5_describeCommittee_35 rfl rfl rfl ?_
  refine gq_aload_n hX dX5_describeCommittee_36 rfl rfl rfl ?_
  refine gq_iload_n hX dX5_describeCommittee_37 rfl rfl rfl ?_
  refine gq_iconst (v := nI 0) hX dX5_describeCommittee_38 rfl (by decide) ?_
  refine gq_callVe hX dX5_describeCommittee_39 rfl vX5_65 (mt_of hb (c := j) (x := 0) (by omega) (by decide)) rfl (mqR0 hb) rfl rfl (Nat.le_of_ble_eq_true rfl) ⟨(Nat.le_of_ble_eq_true rfl), (Nat.le_of_ble_eq_true rfl)⟩ (Nat.zero_add _) (Nat.zero_add _) ?_
  rw [wC0 hncl hj, hm]
  refine gq_callV (mc := 0) (ms := 0) (nc1 := 0) (ns1 := 0) hX dX5_describeCommittee_42 vX5_229 (mt_writesN hb q2.p (w0 := m) (by omega) (show 0 + sb_dg j + 1 + sb_dg m ≤ 60 by omega)) rfl (mqR0 hb) rfl rfl (Nat.le_of_ble_eq_true rfl) ⟨(Nat.le_of_ble_eq_true rfl), (Nat.le_of_ble_eq_true rfl)⟩ rfl rfl ?_
  rintro r M1 ⟨rfl, T3, rfl, p3⟩
  have q3 := q2.tr p3
  refine gq_aload_n hX dX5_describeCommittee_45 rfl rfl rfl ?_
  refine gq_aload_n hX dX5_describeCommittee_46 rfl rfl rfl ?_
  refine gq_iload_n hX dX5_describeCommittee_47 rfl rfl rfl ?_
  refine gq_callVe hX dX5_describeCommittee_48 rfl vX5_104 (mt_flies hb hwf hn hj) rfl (mqR0 hb) rfl rfl (Nat.le_of_ble_eq_true rfl) ⟨(Nat.le_of_ble_eq_true rfl), (Nat.le_of_ble_eq_true rfl)⟩ (Nat.zero_add _) (Nat.zero_add _) ?_
  have k64 : ∀ (T4 : St) (z : Value) (c9 : Nat), c9 = (if S.2 3 j = 0 then 95 else 94) → LnQ (setS T 0 (nI 0)) T4 (lnA (lnN (lnA (lnN lnz j) 47) m) c9) → Gq E X mX5_describeCommittee Q 64 [.ref (b 0), .int (nI j), z] [] (MdW E b T4 (wOf S nc nt no) M) 0 0 := by
    intro T4 z c9 hc9 q4
    have k89 : ∀ (T5 : St), LnQ (setS T 0 (nI 0)) T5 (desH S j) → Gq E X mX5_describeCommittee Q 89 [.ref (b 0), .int (nI j), z] [] (MdW E b T5 (wOf S nc nt no) M) 0 0 := by
      intro T5 q5
      have hH := desH_n (S := S) (j := j) (by omega) hm hm9 ha ha8
      refine gq_iconst (v := nI 0) hX dX5_describeCommittee_89 rfl (by decide) ?_
      refine gq_istore_n hX dX5_describeCommittee_90 rfl rfl (Nat.le_of_ble_eq_true rfl) rfl ?_
      have loop : ∀ n i : Nat, i + n = nt → ∀ (T6 : St), LnQ (setS T 0 (nI 0)) T6 (desC S i j) → Gq E X mX5_describeCommittee Q 91 [.ref (b 0), .int (nI j), .int (nI i)] [] (MdW E b T6 (wOf S nc nt no) M) 0 0 := by
        intro n
        induction n with
        | zero =>
          intro i hj T6 qi
          refine gq_iload_n hX dX5_describeCommittee_91 rfl rfl rfl ?_
          refine gq_aload_n hX dX5_describeCommittee_92 rfl rfl rfl ?_
          refine gq_getf hX dX5_describeCommittee_93 rfl fX5_7 (mqR0 hb) rfl ?_
          refine gq_iconst (v := nI 1) hX dX5_describeCommittee_96 rfl (by decide) ?_
          refine gq_ialdN hX dX5_describeCommittee_97 rfl (mqR1 hb) rfl (by omega) (Nat.le_of_ble_eq_true rfl) ?_
          refine gq_icmp_geT (tgt := 133) hX dX5_describeCommittee_98 rfl (cT hw1 (by omega) (by omega)) ?_
          have ej : nt = i := by omega
          subst ej
          refine gq_aload_n hX dX5_describeCommittee_133 rfl rfl rfl ?_
          refine gq_getf hX dX5_describeCommittee_134 rfl fX5_223 (mqR0 hb) rfl ?_
          rw [show T6.1 4 = nI (desC S nt j).2 from qi.2.2.1]
          exact gq_iret hX hQ dX5_describeCommittee_137 rfl ⟨rfl, T6, rfl, qi⟩
        | succ n ih =>
          intro i hj T6 qi
          refine gq_iload_n hX dX5_describeCommittee_91 rfl rfl rfl ?_
          refine gq_aload_n hX dX5_describeCommittee_92 rfl rfl rfl ?_
          refine gq_getf hX dX5_describeCommittee_93 rfl fX5_7 (mqR0 hb) rfl ?_
          refine gq_iconst (v := nI 1) hX dX5_describeCommittee_96 rfl (by decide) ?_
          refine gq_ialdN hX dX5_describeCommittee_97 rfl (mqR1 hb) rfl (by omega) (Nat.le_of_ble_eq_true rfl) ?_
          refine gq_icmp_geF (tgt := 133) hX dX5_describeCommittee_98 rfl rfl (cF hw1 (by omega) (by omega)) ?_
          refine gq_aload_n hX dX5_describeCommittee_101 rfl rfl rfl ?_
          refine gq_iload_n hX dX5_describeCommittee_102 rfl rfl rfl ?_
          refine gq_iconst (v := nI 1) hX dX5_describeCommittee_103 rfl (by decide) ?_
          refine gq_callVe hX dX5_describeCommittee_104 rfl vX5_68 (mt_tail hb (c := i) (x := 1) (by omega) (by decide)) rfl (mqR0 hb) rfl rfl (Nat.le_of_ble_eq_true rfl) ⟨(Nat.le_of_ble_eq_true rfl), (Nat.le_of_ble_eq_true rfl)⟩ (Nat.zero_add _) (Nat.zero_add _) ?_
          rw [wT1 hntl (by omega)]
          refine gq_iload_n hX dX5_describeCommittee_107 rfl rfl rfl ?_
          refine gq_iconst (v := nI 1) hX dX5_describeCommittee_108 rfl (by decide) ?_
          refine gq_iadd hX dX5_describeCommittee_109 rfl ?_
          refine gq_icmp_eq (tgt := 116) hX dX5_describeCommittee_110 rfl rfl (fun c9 => ?_) (fun c9 => ?_)
          · refine gq_aload_n hX dX5_describeCommittee_116 rfl rfl rfl ?_
            refine gq_bipush (v := nI 126) hX dX5_describeCommittee_117 rfl (by decide) ?_
            have hDn := desC_n (S := S) (j := j) (n := i) (by omega)
            refine gq_callV (mc := 0) (ms := 0) (nc1 := 0) (ns1 := 0) hX dX5_describeCommittee_119 vX5_226 (mt_writes hb qi.p (c := 126) (by decide) (by omega)) rfl (mqR0 hb) rfl rfl (Nat.le_of_ble_eq_true rfl) ⟨(Nat.le_of_ble_eq_true rfl), (Nat.le_of_ble_eq_true rfl)⟩ rfl rfl ?_
            rintro r M1 ⟨rfl, T7, rfl, p7⟩
            have q7 := qi.tr p7
            refine gq_aload_n hX dX5_describeCommittee_122 rfl rfl rfl ?_
            refine gq_iload_n hX dX5_describeCommittee_123 rfl rfl rfl ?_
            refine gq_callV (mc := 0) (ms := 0) (nc1 := 0) (ns1 := 0) hX dX5_describeCommittee_124 vX5_229 (mt_writesN hb q7.p (w0 := i) (by omega) (by show (desC S i j).2 + 1 + sb_dg i ≤ 60; rw [dg1 (by omega)]; omega)) rfl (mqR0 hb) rfl rfl (Nat.le_of_ble_eq_true rfl) ⟨(Nat.le_of_ble_eq_true rfl), (Nat.le_of_ble_eq_true rfl)⟩ rfl rfl ?_
            rintro r M1 ⟨rfl, T8, rfl, p8⟩
            have q8 := q7.tr p8
            refine gq_iinc hX dX5_describeCommittee_127 rfl rfl (inc1 _) (Nat.le_of_ble_eq_true rfl) rfl ?_
            refine gq_goto (tgt := 91) hX dX5_describeCommittee_130 rfl ?_
            have e9 : desC S (i + 1) j = lnN (lnA (desC S i j) 126) i := if_pos (add1_inj.mp c9)
            exact ih (i + 1) (by omega) _ (by rw [e9]; exact q8)
          · refine gq_goto (tgt := 127) hX dX5_describeCommittee_113 rfl ?_
            refine gq_iinc hX dX5_describeCommittee_127 rfl rfl (inc1 _) (Nat.le_of_ble_eq_true rfl) rfl ?_
            refine gq_goto (tgt := 91) hX dX5_describeCommittee_130 rfl ?_
            have e9 : desC S (i + 1) j = desC S i j := if_neg (fun e => c9 (add1_inj.mpr e))
            exact ih (i + 1) (by omega) _ (by rw [e9]; exact qi)
      exact loop nt 0 (by omega) T5 q5
    refine gq_aload_n hX dX5_describeCommittee_64 rfl rfl rfl ?_
    refine gq_iload_n hX dX5_describeCommittee_65 rfl rfl rfl ?_
    refine gq_iconst (v := nI 1) hX dX5_describeCommittee_66 rfl (by decide) ?_
    refine gq_callVe hX dX5_describeCommittee_67 rfl vX5_65 (mt_of hb (c := j) (x := 1) (by omega) (by decide)) rfl (mqR0 hb) rfl rfl (Nat.le_of_ble_eq_true rfl) ⟨(Nat.le_of_ble_eq_true rfl), (Nat.le_of_ble_eq_true rfl)⟩ (Nat.zero_add _) (Nat.zero_add _) ?_
    rw [wC1 hncl hj]
    refine gq_if_le (tgt := 89) hX dX5_describeCommittee_70 rfl rfl (fun c70 => ?_) (fun c70 => ?_)
    · refine k89 T4 ?_
      unfold desH
      rw [if_pos c70, hmc, ← hc9]
      exact q4
    · refine gq_aload_n hX dX5_describeCommittee_73 rfl rfl rfl ?_
      refine gq_bipush (v := nI 45) hX dX5_describeCommittee_74 rfl (by decide) ?_
      refine gq_callV (mc := 0) (ms := 0) (nc1 := 0) (ns1 := 0) hX dX5_describeCommittee_76 vX5_226 (mt_writes hb q4.p (c := 45) (by decide) (show 0 + sb_dg j + 1 + sb_dg m + 1 < 60 by omega)) rfl (mqR0 hb) rfl rfl (Nat.le_of_ble_eq_true rfl) ⟨(Nat.le_of_ble_eq_true rfl), (Nat.le_of_ble_eq_true rfl)⟩ rfl rfl ?_
      rintro r M1 ⟨rfl, T5, rfl, p5⟩
      have q5 := q4.tr p5
      refine gq_aload_n hX dX5_describeCommittee_79 rfl rfl rfl ?_
      refine gq_aload_n hX dX5_describeCommittee_80 rfl rfl rfl ?_
      refine gq_iload_n hX dX5_describeCommittee_81 rfl rfl rfl ?_
      refine gq_iconst (v := nI 1) hX dX5_describeCommittee_82 rfl (by decide) ?_
      refine gq_callVe hX dX5_describeCommittee_83 rfl vX5_65 (mt_of hb (c := j) (x := 1) (by omega) (by decide)) rfl (mqR0 hb) rfl rfl (Nat.le_of_ble_eq_true rfl) ⟨(Nat.le_of_ble_eq_true rfl), (Nat.le_of_ble_eq_true rfl)⟩ (Nat.zero_add _) (Nat.zero_add _) ?_
      rw [wC1 hncl hj, ha]
      refine gq_callV (mc := 0) (ms := 0) (nc1 := 0) (ns1 := 0) hX dX5_describeCommittee_86 vX5_229 (mt_writesN hb q5.p (w0 := a) ha8 (show 0 + sb_dg j + 1 + sb_dg m + 1 + 1 + sb_dg a ≤ 60 by omega)) rfl (mqR0 hb) rfl rfl (Nat.le_of_ble_eq_true rfl) ⟨(Nat.le_of_ble_eq_true rfl), (Nat.le_of_ble_eq_true rfl)⟩ rfl rfl ?_
      rintro r M1 ⟨rfl, T6, rfl, p6⟩
      have q6 := q5.tr p6
      refine k89 T6 ?_
      unfold desH
      rw [if_neg c70, hmc, hac, ← hc9]
      exact q6
  refine gq_if_eq (tgt := 59) hX dX5_describeCommittee_51 rfl rfl (fun c51 => ?_) (fun c51 => ?_)
  · refine gq_bipush (v := nI 95) hX dX5_describeCommittee_59 rfl (by decide) ?_
    refine gq_callV (mc := 0) (ms := 0) (nc1 := 0) (ns1 := 0) hX dX5_describeCommittee_61 vX5_226 (mt_writes hb q3.p (c := 95) (by decide) (show 0 + sb_dg j + 1 + sb_dg m < 60 by omega)) rfl (mqR0 hb) rfl rfl (Nat.le_of_ble_eq_true rfl) ⟨(Nat.le_of_ble_eq_true rfl), (Nat.le_of_ble_eq_true rfl)⟩ rfl rfl ?_
    rintro r M1 ⟨rfl, T4, rfl, p4⟩
    have q4 := q3.tr p4
    exact k64 T4 _ 95 (if_pos c51).symm q4
  · refine gq_bipush (v := nI 94) hX dX5_describeCommittee_54 rfl (by decide) ?_
    refine gq_goto (tgt := 61) hX dX5_describeCommittee_56 rfl ?_
    refine gq_callV (mc := 0) (ms := 0) (nc1 := 0) (ns1 := 0) hX dX5_describeCommittee_61 vX5_226 (mt_writes hb q3.p (c := 94) (by decide) (show 0 + sb_dg j + 1 + sb_dg m < 60 by omega)) rfl (mqR0 hb) rfl rfl (Nat.le_of_ble_eq_true rfl) ⟨(Nat.le_of_ble_eq_true rfl), (Nat.le_of_ble_eq_true rfl)⟩ rfl rfl ?_
    rintro r M1 ⟨rfl, T4, rfl, p4⟩
    have q4 := q3.tr p4
    exact k64 T4 _ 94 (if_neg c51).symm q4

set_option maxRecDepth 100000 in
set_option maxHeartbeats 4000000 in
theorem mr_desC_bad {E : Ev} {b : Nat → Nat} {T : St} {M : Hp} (hb : Lay E 9 b) {S : St} {nc nt no : Nat} (hwf : Wf S nc nt no) (c : Int32) (hF : hasI nc c = 0) : Ct E mX5_describeCommittee [.ref (b 0), .int c] (MdW E b T (wOf S nc nt no) M) (eqR (some (.int (nI 0))) (MdW E b (setS T 0 (nI 1)) (wOf S nc nt no) M)) 0 0 := by
  refine Ct.of gmX5_describeCommittee (ls := [.ref (b 0), .int c, hole]) rfl rfl (Nat.le_of_ble_eq_true rfl) ?_
  intro X hX Q hQ
  have hwf2 := hwf
  obtain ⟨hnc, hncl, hnt, hntl, hno, hnol⟩ := hwf2
  have hw0 : wOf S nc nt no 0 = nI nc := hnc
  have hw1 : wOf S nc nt no 1 = nI nt := hnt
  have hw2 : wOf S nc nt no 2 = nI no := hno
  refine gq_aload_n hX dX5_describeCommittee_0 rfl rfl rfl ?_
  refine gq_iconst (v := nI 0) hX dX5_describeCommittee_1 rfl (by decide) ?_
  refine gq_putf hX dX5_describeCommittee_2 rfl fX5_42 rfl rfl rfl (mqR0 hb) (Nat.le_of_ble_eq_true rfl) (hb.2 0 (by decide)) (mqW0_0 hb) ?_
  refine gq_aload_n hX dX5_describeCommittee_5 rfl rfl rfl ?_
  refine gq_iload_n hX dX5_describeCommittee_6 rfl rfl rfl ?_
  refine gq_callVe hX dX5_describeCommittee_7 rfl vX5_94 (mt_isCom hb hwf _) rfl (mqR0 hb) rfl rfl (Nat.le_of_ble_eq_true rfl) ⟨(Nat.le_of_ble_eq_true rfl), (Nat.le_of_ble_eq_true rfl)⟩ (Nat.zero_add _) (Nat.zero_add _) ?_
  refine gq_if_neF (tgt := 19) hX dX5_describeCommittee_10 rfl rfl hF ?_
  refine gq_aload_n hX dX5_describeCommittee_13 rfl rfl rfl ?_
  refine gq_iconst (v := nI 1) hX dX5_describeCommittee_14 rfl (by decide) ?_
  refine gq_callVe hX dX5_describeCommittee_15 rfl vX5_79 (mt_fails hb _) rfl (mqR0 hb) rfl rfl (Nat.le_of_ble_eq_true rfl) ⟨(Nat.le_of_ble_eq_true rfl), (Nat.le_of_ble_eq_true rfl)⟩ (Nat.zero_add _) (Nat.zero_add _) ?_
  exact gq_iret hX hQ dX5_describeCommittee_18 rfl ⟨rfl, by rw [setS_2]⟩

def kdL (x : Int32) : Nat := if x = nI 114 then 114 else if x = nI 116 then 116 else 103
def desM0 (S : St) (k i o a : Nat) : Ln := lnN (lnA (lnN (lnA (lnN (lnA lnz 35) i) (kdL (S.2 8 k))) o) 58) a
def desM1 (S : St) (k i o a : Nat) : Ln := if S.2 11 k = -1 then desM0 S k i o a else lnN (lnA (desM0 S k i o a) 43) (S.2 11 k).toNatClampNeg
def desM (S : St) (k i o a : Nat) : Ln := if S.2 12 k = 0 then desM1 S k i o a else lnA (desM1 S k i o a) 33

set_option maxRecDepth 100000 in
set_option maxHeartbeats 4000000 in
theorem mr_desM_ok {E : Ev} {b : Nat → Nat} {T : St} {M : Hp} (hb : Lay E 9 b) {S : St} {nc nt no : Nat} (hwf : Wf S nc nt no) {i k : Nat} (ho : slotO S no (nI i) = some k) (hn : Nar S) (hse : SecOk S nc no) (hi8 : i < 100000000) {a o : Nat} (hmv : S.2 9 k = nI a) (ha : a < nc) (ho2 : ObjOk S nc nt k o) : Ct E mX5_describeMotion [.ref (b 0), .int (nI i)] (MdW E b T (wOf S nc nt no) M) (fun r M1 => r = some (.int (nI (desM S k i o a).2)) ∧ ∃ T1, M1 = MdW E b T1 (wOf S nc nt no) M ∧ LnQ (setS T 0 (nI 0)) T1 (desM S k i o a)) 0 0 := by
  refine Ct.of gmX5_describeMotion (ls := [.ref (b 0), .int (nI i), hole]) rfl rfl (Nat.le_of_ble_eq_true rfl) ?_
  intro X hX Q hQ
  have hwf2 := hwf
  obtain ⟨hnc, hncl, hnt, hntl, hno, hnol⟩ := hwf2
  have hw0 : wOf S nc nt no 0 = nI nc := hnc
  have hw1 : wOf S nc nt no 1 = nI nt := hnt
  have hw2 : wOf S nc nt no 2 = nI no := hno
  have hct := mt_slotOf (M := M) (T := setS T 0 (nI 0)) hb hwf (nI i)
  rw [ho] at hct
  obtain ⟨hk, hid⟩ := slotO_lt ho
  have hk0 : 0 ≤ nI k := nI_pos' (by omega)
  have hdi := dg_le8 hi8
  have h1 : sb_dg a = 1 := dg1 (by omega)
  have ho8 : o < 8 := by rcases ho2.2 with ⟨-, h⟩ | ⟨-, h⟩ | ⟨-, h⟩ <;> omega
  have h2 : sb_dg o = 1 := dg1 (by omega)
  refine gq_aload_n hX dX5_describeMotion_0 rfl rfl rfl ?_
  refine gq_iconst (v := nI 0) hX dX5_describeMotion_1 rfl (by decide) ?_
  refine gq_putf hX dX5_describeMotion_2 rfl fX5_42 rfl rfl rfl (mqR0 hb) (Nat.le_of_ble_eq_true rfl) (hb.2 0 (by decide)) (mqW0_0 hb) ?_
  refine gq_aload_n hX dX5_describeMotion_5 rfl rfl rfl ?_
  refine gq_iload_n hX dX5_describeMotion_6 rfl rfl rfl ?_
  refine gq_callVe hX dX5_describeMotion_7 rfl vX5_133 (hct) rfl (mqR0 hb) rfl rfl (Nat.le_of_ble_eq_true rfl) ⟨(Nat.le_of_ble_eq_true rfl), (Nat.le_of_ble_eq_true rfl)⟩ (Nat.zero_add _) (Nat.zero_add _) ?_
  refine gq_istore_n hX dX5_describeMotion_10 rfl rfl (Nat.le_of_ble_eq_true rfl) rfl ?_
  refine gq_iload_n hX dX5_describeMotion_11 rfl rfl rfl ?_
  refine gq_if_geT (tgt := 21) hX dX5_describeMotion_12 rfl hk0 ?_
  refine gq_aload_n hX dX5_describeMotion_21 rfl rfl rfl ?_
  refine gq_iconst (v := nI 0) hX dX5_describeMotion_22 rfl (by decide) ?_
  refine gq_putf hX dX5_describeMotion_23 rfl fX5_223 rfl rfl rfl (mqR0 hb) (Nat.le_of_ble_eq_true rfl) (hb.2 0 (by decide)) (mqW0_10 hb) ?_
  refine gq_aload_n hX dX5_describeMotion_26 rfl rfl rfl ?_
  refine gq_bipush (v := nI 35) hX dX5_describeMotion_27 rfl (by decide) ?_
  have q0 : LnQ (setS T 0 (nI 0)) (setS (setS T 0 (nI 0)) 4 (nI 0)) lnz := LnQ.start
  refine gq_callV (mc := 0) (ms := 0) (nc1 := 0) (ns1 := 0) hX dX5_describeMotion_29 vX5_226 (mt_writes hb q0.p (c := 35) (by decide) (show 0 < 60 by omega)) rfl (mqR0 hb) rfl rfl (Nat.le_of_ble_eq_true rfl) ⟨(Nat.le_of_ble_eq_true rfl), (Nat.le_of_ble_eq_true rfl)⟩ rfl rfl ?_
  rintro r M1 ⟨rfl, T1, rfl, p1⟩
  have q1 := q0.tr p1
  refine gq_aload_n hX dX5_describeMotion_32 rfl rfl rfl ?_
  refine gq_iload_n hX dX5_describeMotion_33 rfl rfl rfl ?_
  refine gq_callV (mc := 0) (ms := 0) (nc1 := 0) (ns1 := 0) hX dX5_describeMotion_34 vX5_229 (mt_writesN hb q1.p (w0 := i) hi8 (show 0 + 1 + sb_dg i ≤ 60 by omega)) rfl (mqR0 hb) rfl rfl (Nat.le_of_ble_eq_true rfl) ⟨(Nat.le_of_ble_eq_true rfl), (Nat.le_of_ble_eq_true rfl)⟩ rfl rfl ?_
  rintro r M1 ⟨rfl, T2, rfl, p2⟩
  have q2 := q1.tr p2
  have k72 : ∀ (T3 : St) (c9 : Nat), c9 = kdL (S.2 8 k) → LnQ (setS T 0 (nI 0)) T3 (lnA (lnN (lnA lnz 35) i) c9) → Gq E X mX5_describeMotion Q 72 [.ref (b 0), .int (nI i), .int (nI k)] [] (MdW E b T3 (wOf S nc nt no) M) 0 0 := by
    intro T3 c9 hc9 q3
    have k141 : ∀ (T8 : St), LnQ (setS T 0 (nI 0)) T8 (desM S k i o a) → Gq E X mX5_describeMotion Q 141 [.ref (b 0), .int (nI i), .int (nI k)] [] (MdW E b T8 (wOf S nc nt no) M) 0 0 := by
      intro T8 q8
      refine gq_aload_n hX dX5_describeMotion_141 rfl rfl rfl ?_
      refine gq_getf hX dX5_describeMotion_142 rfl fX5_223 (mqR0 hb) rfl ?_
      rw [show T8.1 4 = nI (desM S k i o a).2 from q8.2.2.1]
      exact gq_iret hX hQ dX5_describeMotion_145 rfl ⟨rfl, T8, rfl, q8⟩
    have k125 : ∀ (T7 : St), (desM1 S k i o a).2 ≤ 20 → LnQ (setS T 0 (nI 0)) T7 (desM1 S k i o a) → Gq E X mX5_describeMotion Q 125 [.ref (b 0), .int (nI i), .int (nI k)] [] (MdW E b T7 (wOf S nc nt no) M) 0 0 := by
      intro T7 hn7 q7
      refine gq_aload_n hX dX5_describeMotion_125 rfl rfl rfl ?_
      refine gq_iload_n hX dX5_describeMotion_126 rfl rfl rfl ?_
      refine gq_iconst (v := nI 5) hX dX5_describeMotion_127 rfl (by decide) ?_
      refine gq_callVe hX dX5_describeMotion_128 rfl vX5_61 (mt_motion hb (c := k) (x := 5) (by omega) (by decide)) rfl (mqR0 hb) rfl rfl (Nat.le_of_ble_eq_true rfl) ⟨(Nat.le_of_ble_eq_true rfl), (Nat.le_of_ble_eq_true rfl)⟩ (Nat.zero_add _) (Nat.zero_add _) ?_
      rw [wM5 hnol hk]
      refine gq_iconst (v := nI 1) hX dX5_describeMotion_131 rfl (by decide) ?_
      refine gq_icmp_ne (tgt := 141) hX dX5_describeMotion_132 rfl rfl (fun c132 => ?_) (fun c132 => ?_)
      · exact k141 T7 (by unfold desM; rw [if_pos (((bool_01 (hn.2.2 k)).resolve_right c132).trans nI_0)]; exact q7)
      · refine gq_aload_n hX dX5_describeMotion_135 rfl rfl rfl ?_
        refine gq_bipush (v := nI 33) hX dX5_describeMotion_136 rfl (by decide) ?_
        refine gq_callV (mc := 0) (ms := 0) (nc1 := 0) (ns1 := 0) hX dX5_describeMotion_138 vX5_226 (mt_writes hb q7.p (c := 33) (by decide) (by omega)) rfl (mqR0 hb) rfl rfl (Nat.le_of_ble_eq_true rfl) ⟨(Nat.le_of_ble_eq_true rfl), (Nat.le_of_ble_eq_true rfl)⟩ rfl rfl ?_
        rintro r M1 ⟨rfl, T8, rfl, p8⟩
        have q8 := q7.tr p8
        exact k141 T8 (by unfold desM; rw [if_neg (by rw [show S.2 12 k = nI 1 from c132]; decide)]; exact q8)
    refine gq_aload_n hX dX5_describeMotion_72 rfl rfl rfl ?_
    refine gq_aload_n hX dX5_describeMotion_73 rfl rfl rfl ?_
    refine gq_iload_n hX dX5_describeMotion_74 rfl rfl rfl ?_
    refine gq_iconst (v := nI 3) hX dX5_describeMotion_75 rfl (by decide) ?_
    refine gq_callVe hX dX5_describeMotion_76 rfl vX5_61 (mt_motion hb (c := k) (x := 3) (by omega) (by decide)) rfl (mqR0 hb) rfl rfl (Nat.le_of_ble_eq_true rfl) ⟨(Nat.le_of_ble_eq_true rfl), (Nat.le_of_ble_eq_true rfl)⟩ (Nat.zero_add _) (Nat.zero_add _) ?_
    rw [wM3 hnol hk, ho2.1]
    refine gq_callV (mc := 0) (ms := 0) (nc1 := 0) (ns1 := 0) hX dX5_describeMotion_79 vX5_229 (mt_writesN hb q3.p (w0 := o) (by omega) (show 0 + 1 + sb_dg i + 1 + sb_dg o ≤ 60 by omega)) rfl (mqR0 hb) rfl rfl (Nat.le_of_ble_eq_true rfl) ⟨(Nat.le_of_ble_eq_true rfl), (Nat.le_of_ble_eq_true rfl)⟩ rfl rfl ?_
    rintro r M1 ⟨rfl, T4, rfl, p4⟩
    have q4 := q3.tr p4
    refine gq_aload_n hX dX5_describeMotion_82 rfl rfl rfl ?_
    refine gq_bipush (v := nI 58) hX dX5_describeMotion_83 rfl (by decide) ?_
    refine gq_callV (mc := 0) (ms := 0) (nc1 := 0) (ns1 := 0) hX dX5_describeMotion_85 vX5_226 (mt_writes hb q4.p (c := 58) (by decide) (show 0 + 1 + sb_dg i + 1 + sb_dg o < 60 by omega)) rfl (mqR0 hb) rfl rfl (Nat.le_of_ble_eq_true rfl) ⟨(Nat.le_of_ble_eq_true rfl), (Nat.le_of_ble_eq_true rfl)⟩ rfl rfl ?_
    rintro r M1 ⟨rfl, T5, rfl, p5⟩
    have q5 := q4.tr p5
    refine gq_aload_n hX dX5_describeMotion_88 rfl rfl rfl ?_
    refine gq_aload_n hX dX5_describeMotion_89 rfl rfl rfl ?_
    refine gq_iload_n hX dX5_describeMotion_90 rfl rfl rfl ?_
    refine gq_iconst (v := nI 2) hX dX5_describeMotion_91 rfl (by decide) ?_
    refine gq_callVe hX dX5_describeMotion_92 rfl vX5_61 (mt_motion hb (c := k) (x := 2) (by omega) (by decide)) rfl (mqR0 hb) rfl rfl (Nat.le_of_ble_eq_true rfl) ⟨(Nat.le_of_ble_eq_true rfl), (Nat.le_of_ble_eq_true rfl)⟩ (Nat.zero_add _) (Nat.zero_add _) ?_
    rw [wM2 hnol hk, hmv]
    refine gq_callV (mc := 0) (ms := 0) (nc1 := 0) (ns1 := 0) hX dX5_describeMotion_95 vX5_229 (mt_writesN hb q5.p (w0 := a) (by omega) (show 0 + 1 + sb_dg i + 1 + sb_dg o + 1 + sb_dg a ≤ 60 by omega)) rfl (mqR0 hb) rfl rfl (Nat.le_of_ble_eq_true rfl) ⟨(Nat.le_of_ble_eq_true rfl), (Nat.le_of_ble_eq_true rfl)⟩ rfl rfl ?_
    rintro r M1 ⟨rfl, T6, rfl, p6⟩
    have q6 : LnQ (setS T 0 (nI 0)) T6 (desM0 S k i o a) := by unfold desM0; rw [← hc9]; exact q5.tr p6
    have hn6 : (desM0 S k i o a).2 ≤ 13 := by show 0 + 1 + sb_dg i + 1 + sb_dg o + 1 + sb_dg a ≤ 13; omega
    refine gq_aload_n hX dX5_describeMotion_98 rfl rfl rfl ?_
    refine gq_iload_n hX dX5_describeMotion_99 rfl rfl rfl ?_
    refine gq_iconst (v := nI 4) hX dX5_describeMotion_100 rfl (by decide) ?_
    refine gq_callVe hX dX5_describeMotion_101 rfl vX5_61 (mt_motion hb (c := k) (x := 4) (by omega) (by decide)) rfl (mqR0 hb) rfl rfl (Nat.le_of_ble_eq_true rfl) ⟨(Nat.le_of_ble_eq_true rfl), (Nat.le_of_ble_eq_true rfl)⟩ (Nat.zero_add _) (Nat.zero_add _) ?_
    rw [wM4 hnol hk]
    have hsl := sec_le (hse k hk) (by omega)
    show Gq E X mX5_describeMotion Q 104 _ [.int (S.2 11 k + nI 1)] _ 0 0
    refine gq_if_le (tgt := 125) hX dX5_describeMotion_104 rfl rfl (fun c104 => ?_) (fun c104 => ?_)
    · have e1 : desM1 S k i o a = desM0 S k i o a := if_pos (hsl.mp c104)
      exact k125 T6 (by rw [e1]; omega) (by rw [e1]; exact q6)
    · have hn1 : ¬ S.2 11 k = -1 := fun e => c104 (hsl.mpr e)
      obtain ⟨a2, ha2, e2⟩ := (hse k hk).resolve_left hn1
      have e1 : desM1 S k i o a = lnN (lnA (desM0 S k i o a) 43) a2 := by unfold desM1; rw [if_neg hn1, e2, nI_clamp (by omega)]
      have h3 : sb_dg a2 = 1 := dg1 (by omega)
      refine gq_aload_n hX dX5_describeMotion_107 rfl rfl rfl ?_
      refine gq_bipush (v := nI 43) hX dX5_describeMotion_108 rfl (by decide) ?_
      refine gq_callV (mc := 0) (ms := 0) (nc1 := 0) (ns1 := 0) hX dX5_describeMotion_110 vX5_226 (mt_writes hb q6.p (c := 43) (by decide) (by omega)) rfl (mqR0 hb) rfl rfl (Nat.le_of_ble_eq_true rfl) ⟨(Nat.le_of_ble_eq_true rfl), (Nat.le_of_ble_eq_true rfl)⟩ rfl rfl ?_
      rintro r M1 ⟨rfl, T7, rfl, p7⟩
      have q7 := q6.tr p7
      refine gq_aload_n hX dX5_describeMotion_113 rfl rfl rfl ?_
      refine gq_aload_n hX dX5_describeMotion_114 rfl rfl rfl ?_
      refine gq_iload_n hX dX5_describeMotion_115 rfl rfl rfl ?_
      refine gq_iconst (v := nI 4) hX dX5_describeMotion_116 rfl (by decide) ?_
      refine gq_callVe hX dX5_describeMotion_117 rfl vX5_61 (mt_motion hb (c := k) (x := 4) (by omega) (by decide)) rfl (mqR0 hb) rfl rfl (Nat.le_of_ble_eq_true rfl) ⟨(Nat.le_of_ble_eq_true rfl), (Nat.le_of_ble_eq_true rfl)⟩ (Nat.zero_add _) (Nat.zero_add _) ?_
      rw [wM4 hnol hk]
      refine gq_iconst (v := nI 1) hX dX5_describeMotion_120 rfl (by decide) ?_
      refine gq_isub hX dX5_describeMotion_121 rfl ?_
      rw [Int32.add_sub_cancel, e2]
      refine gq_callV (mc := 0) (ms := 0) (nc1 := 0) (ns1 := 0) hX dX5_describeMotion_122 vX5_229 (mt_writesN hb q7.p (w0 := a2) (by omega) (show (desM0 S k i o a).2 + 1 + sb_dg a2 ≤ 60 by omega)) rfl (mqR0 hb) rfl rfl (Nat.le_of_ble_eq_true rfl) ⟨(Nat.le_of_ble_eq_true rfl), (Nat.le_of_ble_eq_true rfl)⟩ rfl rfl ?_
      rintro r M1 ⟨rfl, T8, rfl, p8⟩
      have q8 := q7.tr p8
      exact k125 T8 (by rw [e1]; show (desM0 S k i o a).2 + 1 + sb_dg a2 ≤ 20; omega) (by rw [e1]; exact q8)
  obtain ⟨hob, hkd⟩ := id ho2
  rcases hkd with ⟨h8, hot⟩ | ⟨h8, hot⟩ | ⟨h8, hoc⟩
  · refine gq_aload_n hX dX5_describeMotion_37 rfl rfl rfl ?_
    refine gq_aload_n hX dX5_describeMotion_38 rfl rfl rfl ?_
    refine gq_iload_n hX dX5_describeMotion_39 rfl rfl rfl ?_
    refine gq_iconst (v := nI 1) hX dX5_describeMotion_40 rfl (by decide) ?_
    refine gq_callVe hX dX5_describeMotion_41 rfl vX5_61 (mt_motion hb (c := k) (x := 1) (by omega) (by decide)) rfl (mqR0 hb) rfl rfl (Nat.le_of_ble_eq_true rfl) ⟨(Nat.le_of_ble_eq_true rfl), (Nat.le_of_ble_eq_true rfl)⟩ (Nat.zero_add _) (Nat.zero_add _) ?_
    rw [wM1 hnol hk, h8, kd114]
    refine gq_if_neF (tgt := 52) hX dX5_describeMotion_44 rfl rfl rfl ?_
    refine gq_bipush (v := nI 114) hX dX5_describeMotion_47 rfl (by decide) ?_
    refine gq_goto (tgt := 69) hX dX5_describeMotion_49 rfl ?_
    refine gq_callV (mc := 0) (ms := 0) (nc1 := 0) (ns1 := 0) hX dX5_describeMotion_69 vX5_226 (mt_writes hb q2.p (c := 114) (by decide) (show 0 + 1 + sb_dg i < 60 by omega)) rfl (mqR0 hb) rfl rfl (Nat.le_of_ble_eq_true rfl) ⟨(Nat.le_of_ble_eq_true rfl), (Nat.le_of_ble_eq_true rfl)⟩ rfl rfl ?_
    rintro r M1 ⟨rfl, T3, rfl, p3⟩
    have q3 := q2.tr p3
    exact k72 T3 114 (by rw [h8]; decide) q3
  · refine gq_aload_n hX dX5_describeMotion_37 rfl rfl rfl ?_
    refine gq_aload_n hX dX5_describeMotion_38 rfl rfl rfl ?_
    refine gq_iload_n hX dX5_describeMotion_39 rfl rfl rfl ?_
    refine gq_iconst (v := nI 1) hX dX5_describeMotion_40 rfl (by decide) ?_
    refine gq_callVe hX dX5_describeMotion_41 rfl vX5_61 (mt_motion hb (c := k) (x := 1) (by omega) (by decide)) rfl (mqR0 hb) rfl rfl (Nat.le_of_ble_eq_true rfl) ⟨(Nat.le_of_ble_eq_true rfl), (Nat.le_of_ble_eq_true rfl)⟩ (Nat.zero_add _) (Nat.zero_add _) ?_
    rw [wM1 hnol hk, h8, kd116]
    refine gq_if_neT (tgt := 52) hX dX5_describeMotion_44 rfl (by decide) ?_
    refine gq_aload_n hX dX5_describeMotion_52 rfl rfl rfl ?_
    refine gq_iload_n hX dX5_describeMotion_53 rfl rfl rfl ?_
    refine gq_iconst (v := nI 1) hX dX5_describeMotion_54 rfl (by decide) ?_
    refine gq_callVe hX dX5_describeMotion_55 rfl vX5_61 (mt_motion hb (c := k) (x := 1) (by omega) (by decide)) rfl (mqR0 hb) rfl rfl (Nat.le_of_ble_eq_true rfl) ⟨(Nat.le_of_ble_eq_true rfl), (Nat.le_of_ble_eq_true rfl)⟩ (Nat.zero_add _) (Nat.zero_add _) ?_
    rw [wM1 hnol hk, h8, kd116]
    refine gq_iconst (v := nI 1) hX dX5_describeMotion_58 rfl (by decide) ?_
    refine gq_icmp_neF (tgt := 67) hX dX5_describeMotion_59 rfl rfl rfl ?_
    refine gq_bipush (v := nI 116) hX dX5_describeMotion_62 rfl (by decide) ?_
    refine gq_goto (tgt := 69) hX dX5_describeMotion_64 rfl ?_
    refine gq_callV (mc := 0) (ms := 0) (nc1 := 0) (ns1 := 0) hX dX5_describeMotion_69 vX5_226 (mt_writes hb q2.p (c := 116) (by decide) (show 0 + 1 + sb_dg i < 60 by omega)) rfl (mqR0 hb) rfl rfl (Nat.le_of_ble_eq_true rfl) ⟨(Nat.le_of_ble_eq_true rfl), (Nat.le_of_ble_eq_true rfl)⟩ rfl rfl ?_
    rintro r M1 ⟨rfl, T3, rfl, p3⟩
    have q3 := q2.tr p3
    exact k72 T3 116 (by rw [h8]; decide) q3
  · refine gq_aload_n hX dX5_describeMotion_37 rfl rfl rfl ?_
    refine gq_aload_n hX dX5_describeMotion_38 rfl rfl rfl ?_
    refine gq_iload_n hX dX5_describeMotion_39 rfl rfl rfl ?_
    refine gq_iconst (v := nI 1) hX dX5_describeMotion_40 rfl (by decide) ?_
    refine gq_callVe hX dX5_describeMotion_41 rfl vX5_61 (mt_motion hb (c := k) (x := 1) (by omega) (by decide)) rfl (mqR0 hb) rfl rfl (Nat.le_of_ble_eq_true rfl) ⟨(Nat.le_of_ble_eq_true rfl), (Nat.le_of_ble_eq_true rfl)⟩ (Nat.zero_add _) (Nat.zero_add _) ?_
    rw [wM1 hnol hk, h8, kd103]
    refine gq_if_neT (tgt := 52) hX dX5_describeMotion_44 rfl (by decide) ?_
    refine gq_aload_n hX dX5_describeMotion_52 rfl rfl rfl ?_
    refine gq_iload_n hX dX5_describeMotion_53 rfl rfl rfl ?_
    refine gq_iconst (v := nI 1) hX dX5_describeMotion_54 rfl (by decide) ?_
    refine gq_callVe hX dX5_describeMotion_55 rfl vX5_61 (mt_motion hb (c := k) (x := 1) (by omega) (by decide)) rfl (mqR0 hb) rfl rfl (Nat.le_of_ble_eq_true rfl) ⟨(Nat.le_of_ble_eq_true rfl), (Nat.le_of_ble_eq_true rfl)⟩ (Nat.zero_add _) (Nat.zero_add _) ?_
    rw [wM1 hnol hk, h8, kd103]
    refine gq_iconst (v := nI 1) hX dX5_describeMotion_58 rfl (by decide) ?_
    refine gq_icmp_neT (tgt := 67) hX dX5_describeMotion_59 rfl (by decide) ?_
    refine gq_bipush (v := nI 103) hX dX5_describeMotion_67 rfl (by decide) ?_
    refine gq_callV (mc := 0) (ms := 0) (nc1 := 0) (ns1 := 0) hX dX5_describeMotion_69 vX5_226 (mt_writes hb q2.p (c := 103) (by decide) (show 0 + 1 + sb_dg i < 60 by omega)) rfl (mqR0 hb) rfl rfl (Nat.le_of_ble_eq_true rfl) ⟨(Nat.le_of_ble_eq_true rfl), (Nat.le_of_ble_eq_true rfl)⟩ rfl rfl ?_
    rintro r M1 ⟨rfl, T3, rfl, p3⟩
    have q3 := q2.tr p3
    exact k72 T3 103 (by rw [h8]; decide) q3

set_option maxRecDepth 100000 in
set_option maxHeartbeats 4000000 in
theorem mr_desM_bad {E : Ev} {b : Nat → Nat} {T : St} {M : Hp} (hb : Lay E 9 b) {S : St} {nc nt no : Nat} (hwf : Wf S nc nt no) {id : Int32} (ho : slotO S no id = none) : Ct E mX5_describeMotion [.ref (b 0), .int id] (MdW E b T (wOf S nc nt no) M) (eqR (some (.int (nI 0))) (MdW E b (setS T 0 (nI 1)) (wOf S nc nt no) M)) 0 0 := by
  refine Ct.of gmX5_describeMotion (ls := [.ref (b 0), .int id, hole]) rfl rfl (Nat.le_of_ble_eq_true rfl) ?_
  intro X hX Q hQ
  have hwf2 := hwf
  obtain ⟨hnc, hncl, hnt, hntl, hno, hnol⟩ := hwf2
  have hw0 : wOf S nc nt no 0 = nI nc := hnc
  have hw1 : wOf S nc nt no 1 = nI nt := hnt
  have hw2 : wOf S nc nt no 2 = nI no := hno
  have hct := mt_slotOf (M := M) (T := setS T 0 (nI 0)) hb hwf id
  rw [ho] at hct
  refine gq_aload_n hX dX5_describeMotion_0 rfl rfl rfl ?_
  refine gq_iconst (v := nI 0) hX dX5_describeMotion_1 rfl (by decide) ?_
  refine gq_putf hX dX5_describeMotion_2 rfl fX5_42 rfl rfl rfl (mqR0 hb) (Nat.le_of_ble_eq_true rfl) (hb.2 0 (by decide)) (mqW0_0 hb) ?_
  refine gq_aload_n hX dX5_describeMotion_5 rfl rfl rfl ?_
  refine gq_iload_n hX dX5_describeMotion_6 rfl rfl rfl ?_
  refine gq_callVe hX dX5_describeMotion_7 rfl vX5_133 (hct) rfl (mqR0 hb) rfl rfl (Nat.le_of_ble_eq_true rfl) ⟨(Nat.le_of_ble_eq_true rfl), (Nat.le_of_ble_eq_true rfl)⟩ (Nat.zero_add _) (Nat.zero_add _) ?_
  refine gq_istore_n hX dX5_describeMotion_10 rfl rfl (Nat.le_of_ble_eq_true rfl) rfl ?_
  refine gq_iload_n hX dX5_describeMotion_11 rfl rfl rfl ?_
  refine gq_if_geF (tgt := 21) hX dX5_describeMotion_12 rfl rfl (by decide) ?_
  refine gq_aload_n hX dX5_describeMotion_15 rfl rfl rfl ?_
  refine gq_iconst (v := nI 1) hX dX5_describeMotion_16 rfl (by decide) ?_
  refine gq_callVe hX dX5_describeMotion_17 rfl vX5_79 (mt_fails hb _) rfl (mqR0 hb) rfl rfl (Nat.le_of_ble_eq_true rfl) ⟨(Nat.le_of_ble_eq_true rfl), (Nat.le_of_ble_eq_true rfl)⟩ (Nat.zero_add _) (Nat.zero_add _) ?_
  exact gq_iret hX hQ dX5_describeMotion_20 rfl ⟨rfl, by rw [setS_2]⟩

set_option maxRecDepth 100000 in
set_option maxHeartbeats 4000000 in
theorem mr_lineAt_bad {E : Ev} {b : Nat → Nat} {T : St} {w : Nat → Int32} {M : Hp} (hb : Lay E 9 b) {l : Ln} (hl : LnP T l) (hn : l.2 < 1000) (c : Int32) (hF : hasI l.2 c = 0) : Ct E mX5_lineAt [.ref (b 0), .int c] (MdW E b T w M) (eqR (some (.int (nI 0))) (MdW E b (setS T 0 (nI 1)) w M)) 0 0 := by
  refine Ct.of gmX5_lineAt (ls := [.ref (b 0), .int c]) rfl rfl (Nat.le_of_ble_eq_true rfl) ?_
  intro X hX Q hQ
  refine gq_aload_n hX dX5_lineAt_0 rfl rfl rfl ?_
  refine gq_iconst (v := nI 0) hX dX5_lineAt_1 rfl (by decide) ?_
  refine gq_putf hX dX5_lineAt_2 rfl fX5_42 rfl rfl rfl (mqR0 hb) (Nat.le_of_ble_eq_true rfl) (hb.2 0 (by decide)) (mqW0_0 hb) ?_
  refine gq_iload_n hX dX5_lineAt_5 rfl rfl rfl ?_
  refine gq_iconst (v := nI 0) hX dX5_lineAt_6 rfl (by decide) ?_
  refine gq_aload_n hX dX5_lineAt_7 rfl rfl rfl ?_
  refine gq_getf hX dX5_lineAt_8 rfl fX5_223 (mqR0 hb) rfl ?_
  refine gq_iconst (v := nI 1) hX dX5_lineAt_11 rfl (by decide) ?_
  refine gq_isub hX dX5_lineAt_12 rfl ?_
  rw [show (setS T 0 (nI 0)).1 4 = nI l.2 from hl.1]
  refine gq_callSe hX dX5_lineAt_13 rfl vX5_57 (mt_btw _ _ _) rfl rfl (Nat.le_of_ble_eq_true rfl) ⟨(Nat.le_of_ble_eq_true rfl), (Nat.le_of_ble_eq_true rfl)⟩ (Nat.zero_add _) (Nat.zero_add _) ?_
  refine gq_if_eqT (tgt := 26) hX dX5_lineAt_16 rfl (by rw [btw_has (by omega)]; exact hF) ?_
  refine gq_aload_n hX dX5_lineAt_26 rfl rfl rfl ?_
  refine gq_iconst (v := nI 1) hX dX5_lineAt_27 rfl (by decide) ?_
  refine gq_callVe hX dX5_lineAt_28 rfl vX5_79 (mt_fails hb _) rfl (mqR0 hb) rfl rfl (Nat.le_of_ble_eq_true rfl) ⟨(Nat.le_of_ble_eq_true rfl), (Nat.le_of_ble_eq_true rfl)⟩ (Nat.zero_add _) (Nat.zero_add _) ?_
  refine gq_i2c hX dX5_lineAt_31 rfl (i2c_m (k := 0) (by decide)) ?_
  exact gq_zret hX hQ dX5_lineAt_32 rfl rfl ⟨rfl, by rw [setS_2]⟩

set_option maxRecDepth 100000 in
set_option maxHeartbeats 4000000 in
theorem mr_lineAt_ok {E : Ev} {b : Nat → Nat} {T : St} {w : Nat → Int32} {M : Hp} (hb : Lay E 9 b) {l : Ln} (hl : LnP T l) (hn : l.2 ≤ 60) {i : Nat} (hi : i < l.2) (hc : l.1 i < 128) : Ct E mX5_lineAt [.ref (b 0), .int (nI i)] (MdW E b T w M) (eqR (some (.int (nI (l.1 i)))) (MdW E b (setS T 0 (nI 0)) w M)) 0 0 := by
  refine Ct.of gmX5_lineAt (ls := [.ref (b 0), .int (nI i)]) rfl rfl (Nat.le_of_ble_eq_true rfl) ?_
  intro X hX Q hQ
  refine gq_aload_n hX dX5_lineAt_0 rfl rfl rfl ?_
  refine gq_iconst (v := nI 0) hX dX5_lineAt_1 rfl (by decide) ?_
  refine gq_putf hX dX5_lineAt_2 rfl fX5_42 rfl rfl rfl (mqR0 hb) (Nat.le_of_ble_eq_true rfl) (hb.2 0 (by decide)) (mqW0_0 hb) ?_
  refine gq_iload_n hX dX5_lineAt_5 rfl rfl rfl ?_
  refine gq_iconst (v := nI 0) hX dX5_lineAt_6 rfl (by decide) ?_
  refine gq_aload_n hX dX5_lineAt_7 rfl rfl rfl ?_
  refine gq_getf hX dX5_lineAt_8 rfl fX5_223 (mqR0 hb) rfl ?_
  refine gq_iconst (v := nI 1) hX dX5_lineAt_11 rfl (by decide) ?_
  refine gq_isub hX dX5_lineAt_12 rfl ?_
  rw [show (setS T 0 (nI 0)).1 4 = nI l.2 from hl.1]
  refine gq_callSe hX dX5_lineAt_13 rfl vX5_57 (mt_btw _ _ _) rfl rfl (Nat.le_of_ble_eq_true rfl) ⟨(Nat.le_of_ble_eq_true rfl), (Nat.le_of_ble_eq_true rfl)⟩ (Nat.zero_add _) (Nat.zero_add _) ?_
  refine gq_if_eqF (tgt := 26) hX dX5_lineAt_16 rfl rfl (by rw [btw_has (by omega), hasI_yes hi (by omega)]; decide) ?_
  refine gq_aload_n hX dX5_lineAt_19 rfl rfl rfl ?_
  refine gq_getf hX dX5_lineAt_20 rfl fX5_25 (mqR0 hb) rfl ?_
  refine gq_iload_n hX dX5_lineAt_23 rfl rfl rfl ?_
  refine gq_caldN hX dX5_lineAt_24 rfl (mqR6 hb) rfl (by omega) (Nat.le_of_ble_eq_true rfl) ?_
  rw [show (setS T 0 (nI 0)).2 6 i = nI (l.1 i) from hl.2 i hi]
  exact gq_zret hX hQ dX5_lineAt_25 rfl (nar_c hc) ⟨rfl, rfl⟩

set_option maxRecDepth 100000 in
set_option maxHeartbeats 4000000 in
theorem mr_append_bad {E : Ev} {b : Nat → Nat} {T : St} {w : Nat → Int32} {M : Hp} (hb : Lay E 9 b) (c : Int32) (hF : btw c (nI 32) (nI 126) = 0) : Ct E mX5_append [.ref (b 0), .int c] (MdW E b T w M) (eqR (some (.int (nI 0))) (MdW E b (setS T 0 (nI 1)) w M)) 0 0 := by
  refine Ct.of gmX5_append (ls := [.ref (b 0), .int c]) rfl rfl (Nat.le_of_ble_eq_true rfl) ?_
  intro X hX Q hQ
  refine gq_aload_n hX dX5_append_0 rfl rfl rfl ?_
  refine gq_iconst (v := nI 0) hX dX5_append_1 rfl (by decide) ?_
  refine gq_putf hX dX5_append_2 rfl fX5_42 rfl rfl rfl (mqR0 hb) (Nat.le_of_ble_eq_true rfl) (hb.2 0 (by decide)) (mqW0_0 hb) ?_
  refine gq_iload_n hX dX5_append_5 rfl rfl rfl ?_
  refine gq_bipush (v := nI 32) hX dX5_append_6 rfl (by decide) ?_
  refine gq_bipush (v := nI 126) hX dX5_append_8 rfl (by decide) ?_
  refine gq_callSe hX dX5_append_10 rfl vX5_57 (mt_btw _ _ _) rfl rfl (Nat.le_of_ble_eq_true rfl) ⟨(Nat.le_of_ble_eq_true rfl), (Nat.le_of_ble_eq_true rfl)⟩ (Nat.zero_add _) (Nat.zero_add _) ?_
  refine gq_if_neF (tgt := 22) hX dX5_append_13 rfl rfl hF ?_
  refine gq_aload_n hX dX5_append_16 rfl rfl rfl ?_
  refine gq_iconst (v := nI 1) hX dX5_append_17 rfl (by decide) ?_
  refine gq_callVe hX dX5_append_18 rfl vX5_79 (mt_fails hb _) rfl (mqR0 hb) rfl rfl (Nat.le_of_ble_eq_true rfl) ⟨(Nat.le_of_ble_eq_true rfl), (Nat.le_of_ble_eq_true rfl)⟩ (Nat.zero_add _) (Nat.zero_add _) ?_
  exact gq_iret hX hQ dX5_append_21 rfl ⟨rfl, by rw [setS_2]⟩

set_option maxRecDepth 100000 in
set_option maxHeartbeats 4000000 in
theorem mr_append_full {E : Ev} {b : Nat → Nat} {T : St} {w : Nat → Int32} {M : Hp} (hb : Lay E 9 b) (c : Int32) (hF : ¬ btw c (nI 32) (nI 126) = 0) (h60 : T.1 5 = nI 60) : Ct E mX5_append [.ref (b 0), .int c] (MdW E b T w M) (eqR (some (.int (nI 0))) (MdW E b (setS T 0 (nI 2)) w M)) 0 0 := by
  refine Ct.of gmX5_append (ls := [.ref (b 0), .int c]) rfl rfl (Nat.le_of_ble_eq_true rfl) ?_
  intro X hX Q hQ
  refine gq_aload_n hX dX5_append_0 rfl rfl rfl ?_
  refine gq_iconst (v := nI 0) hX dX5_append_1 rfl (by decide) ?_
  refine gq_putf hX dX5_append_2 rfl fX5_42 rfl rfl rfl (mqR0 hb) (Nat.le_of_ble_eq_true rfl) (hb.2 0 (by decide)) (mqW0_0 hb) ?_
  refine gq_iload_n hX dX5_append_5 rfl rfl rfl ?_
  refine gq_bipush (v := nI 32) hX dX5_append_6 rfl (by decide) ?_
  refine gq_bipush (v := nI 126) hX dX5_append_8 rfl (by decide) ?_
  refine gq_callSe hX dX5_append_10 rfl vX5_57 (mt_btw _ _ _) rfl rfl (Nat.le_of_ble_eq_true rfl) ⟨(Nat.le_of_ble_eq_true rfl), (Nat.le_of_ble_eq_true rfl)⟩ (Nat.zero_add _) (Nat.zero_add _) ?_
  refine gq_if_neT (tgt := 22) hX dX5_append_13 rfl hF ?_
  refine gq_aload_n hX dX5_append_22 rfl rfl rfl ?_
  refine gq_getf hX dX5_append_23 rfl fX5_232 (mqR0 hb) rfl ?_
  refine gq_bipush (v := nI 60) hX dX5_append_26 rfl (by decide) ?_
  refine gq_icmp_neF (tgt := 37) hX dX5_append_28 rfl rfl h60 ?_
  refine gq_aload_n hX dX5_append_31 rfl rfl rfl ?_
  refine gq_iconst (v := nI 2) hX dX5_append_32 rfl (by decide) ?_
  refine gq_callVe hX dX5_append_33 rfl vX5_79 (mt_fails hb _) rfl (mqR0 hb) rfl rfl (Nat.le_of_ble_eq_true rfl) ⟨(Nat.le_of_ble_eq_true rfl), (Nat.le_of_ble_eq_true rfl)⟩ (Nat.zero_add _) (Nat.zero_add _) ?_
  exact gq_iret hX hQ dX5_append_36 rfl ⟨rfl, by rw [setS_2]⟩

set_option maxRecDepth 100000 in
set_option maxHeartbeats 4000000 in
theorem mr_append_ok {E : Ev} {b : Nat → Nat} {T : St} {w : Nat → Int32} {M : Hp} (hb : Lay E 9 b) {c n : Nat} (hF : ¬ btw (nI c) (nI 32) (nI 126) = 0) (hc : c < 128) (hn : T.1 5 = nI n) (hn6 : n < 60) : Ct E mX5_append [.ref (b 0), .int (nI c)] (MdW E b T w M) (eqR (some (.int (nI (n + 1)))) (MdW E b (setS (setA (setS T 0 (nI 0)) 7 (upd (T.2 7) n (nI c))) 5 (nI (n + 1))) w M)) 0 0 := by
  refine Ct.of gmX5_append (ls := [.ref (b 0), .int (nI c)]) rfl rfl (Nat.le_of_ble_eq_true rfl) ?_
  intro X hX Q hQ
  refine gq_aload_n hX dX5_append_0 rfl rfl rfl ?_
  refine gq_iconst (v := nI 0) hX dX5_append_1 rfl (by decide) ?_
  refine gq_putf hX dX5_append_2 rfl fX5_42 rfl rfl rfl (mqR0 hb) (Nat.le_of_ble_eq_true rfl) (hb.2 0 (by decide)) (mqW0_0 hb) ?_
  refine gq_iload_n hX dX5_append_5 rfl rfl rfl ?_
  refine gq_bipush (v := nI 32) hX dX5_append_6 rfl (by decide) ?_
  refine gq_bipush (v := nI 126) hX dX5_append_8 rfl (by decide) ?_
  refine gq_callSe hX dX5_append_10 rfl vX5_57 (mt_btw _ _ _) rfl rfl (Nat.le_of_ble_eq_true rfl) ⟨(Nat.le_of_ble_eq_true rfl), (Nat.le_of_ble_eq_true rfl)⟩ (Nat.zero_add _) (Nat.zero_add _) ?_
  refine gq_if_neT (tgt := 22) hX dX5_append_13 rfl hF ?_
  refine gq_aload_n hX dX5_append_22 rfl rfl rfl ?_
  refine gq_getf hX dX5_append_23 rfl fX5_232 (mqR0 hb) rfl ?_
  refine gq_bipush (v := nI 60) hX dX5_append_26 rfl (by decide) ?_
  refine gq_icmp_neT (tgt := 37) hX dX5_append_28 rfl (by rw [show (setS T 0 (nI 0)).1 5 = nI n from hn]; exact fun e => by have := (nI_eq (by omega) (by decide)).mp e; omega) ?_
  refine gq_aload_n hX dX5_append_37 rfl rfl rfl ?_
  refine gq_getf hX dX5_append_38 rfl fX5_29 (mqR0 hb) rfl ?_
  refine gq_aload_n hX dX5_append_41 rfl rfl rfl ?_
  refine gq_getf hX dX5_append_42 rfl fX5_232 (mqR0 hb) rfl ?_
  refine gq_iload_n hX dX5_append_45 rfl rfl rfl ?_
  refine gq_castN hX dX5_append_46 rfl (mqR7 hb) hn (by omega) (Nat.le_of_ble_eq_true rfl) (hb.2 7 (by decide)) (mqW7 hb) ?_
  rw [vnc hc]
  refine gq_aload_n hX dX5_append_47 rfl rfl rfl ?_
  refine gq_dup hX dX5_append_48 rfl rfl ?_
  refine gq_getf hX dX5_append_49 rfl fX5_232 (mqR0 hb) rfl ?_
  refine gq_iconst (v := nI 1) hX dX5_append_52 rfl (by decide) ?_
  refine gq_iadd hX dX5_append_53 rfl ?_
  rw [show (setA (setS T 0 (nI 0)) 7 (upd ((setS T 0 (nI 0)).2 7) n (nI c))).1 5 = nI n from hn, inM]
  refine gq_putf hX dX5_append_54 rfl fX5_232 rfl rfl rfl (mqR0 hb) (Nat.le_of_ble_eq_true rfl) (hb.2 0 (by decide)) (mqW0_12 hb) ?_
  refine gq_aload_n hX dX5_append_57 rfl rfl rfl ?_
  refine gq_getf hX dX5_append_58 rfl fX5_232 (mqR0 hb) rfl ?_
  exact gq_iret hX hQ dX5_append_61 rfl ⟨rfl, rfl⟩

set_option maxRecDepth 100000 in
set_option maxHeartbeats 4000000 in
theorem mr_errorPosition_bad {E : Ev} {b : Nat → Nat} {T : St} {w : Nat → Int32} {M : Hp} (hb : Lay E 9 b) (h : T.1 7 < 0) : Ct E mX5_errorPosition [.ref (b 0)] (MdW E b T w M) (eqR (some (.int (nI 0))) (MdW E b (setS T 0 (nI 1)) w M)) 0 0 := by
  refine Ct.of gmX5_errorPosition (ls := [.ref (b 0)]) rfl rfl (Nat.le_of_ble_eq_true rfl) ?_
  intro X hX Q hQ
  refine gq_aload_n hX dX5_errorPosition_0 rfl rfl rfl ?_
  refine gq_iconst (v := nI 0) hX dX5_errorPosition_1 rfl (by decide) ?_
  refine gq_putf hX dX5_errorPosition_2 rfl fX5_42 rfl rfl rfl (mqR0 hb) (Nat.le_of_ble_eq_true rfl) (hb.2 0 (by decide)) (mqW0_0 hb) ?_
  refine gq_aload_n hX dX5_errorPosition_5 rfl rfl rfl ?_
  refine gq_getf hX dX5_errorPosition_6 rfl fX5_32 (mqR0 hb) rfl ?_
  refine gq_if_geF (tgt := 20) hX dX5_errorPosition_9 rfl rfl (i32_le.mpr h) ?_
  refine gq_aload_n hX dX5_errorPosition_12 rfl rfl rfl ?_
  refine gq_iconst (v := nI 1) hX dX5_errorPosition_13 rfl (by decide) ?_
  refine gq_callVe hX dX5_errorPosition_14 rfl vX5_79 (mt_fails hb _) rfl (mqR0 hb) rfl rfl (Nat.le_of_ble_eq_true rfl) ⟨(Nat.le_of_ble_eq_true rfl), (Nat.le_of_ble_eq_true rfl)⟩ (Nat.zero_add _) (Nat.zero_add _) ?_
  refine gq_goto (tgt := 24) hX dX5_errorPosition_17 rfl ?_
  exact gq_iret hX hQ dX5_errorPosition_24 rfl ⟨rfl, by rw [setS_2]⟩

set_option maxRecDepth 100000 in
set_option maxHeartbeats 4000000 in
theorem mr_errorPosition_ok {E : Ev} {b : Nat → Nat} {T : St} {w : Nat → Int32} {M : Hp} (hb : Lay E 9 b) (h : ¬ T.1 7 < 0) : Ct E mX5_errorPosition [.ref (b 0)] (MdW E b T w M) (eqR (some (.int (T.1 7))) (MdW E b (setS T 0 (nI 0)) w M)) 0 0 := by
  refine Ct.of gmX5_errorPosition (ls := [.ref (b 0)]) rfl rfl (Nat.le_of_ble_eq_true rfl) ?_
  intro X hX Q hQ
  refine gq_aload_n hX dX5_errorPosition_0 rfl rfl rfl ?_
  refine gq_iconst (v := nI 0) hX dX5_errorPosition_1 rfl (by decide) ?_
  refine gq_putf hX dX5_errorPosition_2 rfl fX5_42 rfl rfl rfl (mqR0 hb) (Nat.le_of_ble_eq_true rfl) (hb.2 0 (by decide)) (mqW0_0 hb) ?_
  refine gq_aload_n hX dX5_errorPosition_5 rfl rfl rfl ?_
  refine gq_getf hX dX5_errorPosition_6 rfl fX5_32 (mqR0 hb) rfl ?_
  refine gq_if_geT (tgt := 20) hX dX5_errorPosition_9 rfl (i32_lt.mp h) ?_
  refine gq_aload_n hX dX5_errorPosition_20 rfl rfl rfl ?_
  refine gq_getf hX dX5_errorPosition_21 rfl fX5_32 (mqR0 hb) rfl ?_
  exact gq_iret hX hQ dX5_errorPosition_24 rfl ⟨rfl, rfl⟩

set_option maxRecDepth 100000 in
set_option maxHeartbeats 4000000 in
theorem mr_failedCommand_bad {E : Ev} {b : Nat → Nat} {T : St} {w : Nat → Int32} {M : Hp} (hb : Lay E 9 b) (h : T.1 8 < 0) : Ct E mX5_failedCommand [.ref (b 0)] (MdW E b T w M) (eqR (some (.int (nI 0))) (MdW E b (setS T 0 (nI 1)) w M)) 0 0 := by
  refine Ct.of gmX5_failedCommand (ls := [.ref (b 0)]) rfl rfl (Nat.le_of_ble_eq_true rfl) ?_
  intro X hX Q hQ
  refine gq_aload_n hX dX5_failedCommand_0 rfl rfl rfl ?_
  refine gq_iconst (v := nI 0) hX dX5_failedCommand_1 rfl (by decide) ?_
  refine gq_putf hX dX5_failedCommand_2 rfl fX5_42 rfl rfl rfl (mqR0 hb) (Nat.le_of_ble_eq_true rfl) (hb.2 0 (by decide)) (mqW0_0 hb) ?_
  refine gq_aload_n hX dX5_failedCommand_5 rfl rfl rfl ?_
  refine gq_getf hX dX5_failedCommand_6 rfl fX5_36 (mqR0 hb) rfl ?_
  refine gq_if_geF (tgt := 20) hX dX5_failedCommand_9 rfl rfl (i32_le.mpr h) ?_
  refine gq_aload_n hX dX5_failedCommand_12 rfl rfl rfl ?_
  refine gq_iconst (v := nI 1) hX dX5_failedCommand_13 rfl (by decide) ?_
  refine gq_callVe hX dX5_failedCommand_14 rfl vX5_79 (mt_fails hb _) rfl (mqR0 hb) rfl rfl (Nat.le_of_ble_eq_true rfl) ⟨(Nat.le_of_ble_eq_true rfl), (Nat.le_of_ble_eq_true rfl)⟩ (Nat.zero_add _) (Nat.zero_add _) ?_
  refine gq_goto (tgt := 24) hX dX5_failedCommand_17 rfl ?_
  exact gq_iret hX hQ dX5_failedCommand_24 rfl ⟨rfl, by rw [setS_2]⟩

set_option maxRecDepth 100000 in
set_option maxHeartbeats 4000000 in
theorem mr_failedCommand_ok {E : Ev} {b : Nat → Nat} {T : St} {w : Nat → Int32} {M : Hp} (hb : Lay E 9 b) (h : ¬ T.1 8 < 0) : Ct E mX5_failedCommand [.ref (b 0)] (MdW E b T w M) (eqR (some (.int (T.1 8))) (MdW E b (setS T 0 (nI 0)) w M)) 0 0 := by
  refine Ct.of gmX5_failedCommand (ls := [.ref (b 0)]) rfl rfl (Nat.le_of_ble_eq_true rfl) ?_
  intro X hX Q hQ
  refine gq_aload_n hX dX5_failedCommand_0 rfl rfl rfl ?_
  refine gq_iconst (v := nI 0) hX dX5_failedCommand_1 rfl (by decide) ?_
  refine gq_putf hX dX5_failedCommand_2 rfl fX5_42 rfl rfl rfl (mqR0 hb) (Nat.le_of_ble_eq_true rfl) (hb.2 0 (by decide)) (mqW0_0 hb) ?_
  refine gq_aload_n hX dX5_failedCommand_5 rfl rfl rfl ?_
  refine gq_getf hX dX5_failedCommand_6 rfl fX5_36 (mqR0 hb) rfl ?_
  refine gq_if_geT (tgt := 20) hX dX5_failedCommand_9 rfl (i32_lt.mp h) ?_
  refine gq_aload_n hX dX5_failedCommand_20 rfl rfl rfl ?_
  refine gq_getf hX dX5_failedCommand_21 rfl fX5_36 (mqR0 hb) rfl ?_
  exact gq_iret hX hQ dX5_failedCommand_24 rfl ⟨rfl, rfl⟩

set_option maxRecDepth 100000 in
set_option maxHeartbeats 4000000 in
theorem mr_failedException_bad {E : Ev} {b : Nat → Nat} {T : St} {w : Nat → Int32} {M : Hp} (hb : Lay E 9 b) (h : T.1 8 < 0) : Ct E mX5_failedException [.ref (b 0)] (MdW E b T w M) (eqR (some (.int (nI 0))) (MdW E b (setS T 0 (nI 1)) w M)) 0 0 := by
  refine Ct.of gmX5_failedException (ls := [.ref (b 0)]) rfl rfl (Nat.le_of_ble_eq_true rfl) ?_
  intro X hX Q hQ
  refine gq_aload_n hX dX5_failedException_0 rfl rfl rfl ?_
  refine gq_iconst (v := nI 0) hX dX5_failedException_1 rfl (by decide) ?_
  refine gq_putf hX dX5_failedException_2 rfl fX5_42 rfl rfl rfl (mqR0 hb) (Nat.le_of_ble_eq_true rfl) (hb.2 0 (by decide)) (mqW0_0 hb) ?_
  refine gq_aload_n hX dX5_failedException_5 rfl rfl rfl ?_
  refine gq_getf hX dX5_failedException_6 rfl fX5_36 (mqR0 hb) rfl ?_
  refine gq_if_geF (tgt := 20) hX dX5_failedException_9 rfl rfl (i32_le.mpr h) ?_
  refine gq_aload_n hX dX5_failedException_12 rfl rfl rfl ?_
  refine gq_iconst (v := nI 1) hX dX5_failedException_13 rfl (by decide) ?_
  refine gq_callVe hX dX5_failedException_14 rfl vX5_79 (mt_fails hb _) rfl (mqR0 hb) rfl rfl (Nat.le_of_ble_eq_true rfl) ⟨(Nat.le_of_ble_eq_true rfl), (Nat.le_of_ble_eq_true rfl)⟩ (Nat.zero_add _) (Nat.zero_add _) ?_
  refine gq_goto (tgt := 24) hX dX5_failedException_17 rfl ?_
  exact gq_iret hX hQ dX5_failedException_24 rfl ⟨rfl, by rw [setS_2]⟩

set_option maxRecDepth 100000 in
set_option maxHeartbeats 4000000 in
theorem mr_failedException_ok {E : Ev} {b : Nat → Nat} {T : St} {w : Nat → Int32} {M : Hp} (hb : Lay E 9 b) (h : ¬ T.1 8 < 0) : Ct E mX5_failedException [.ref (b 0)] (MdW E b T w M) (eqR (some (.int (T.1 9))) (MdW E b (setS T 0 (nI 0)) w M)) 0 0 := by
  refine Ct.of gmX5_failedException (ls := [.ref (b 0)]) rfl rfl (Nat.le_of_ble_eq_true rfl) ?_
  intro X hX Q hQ
  refine gq_aload_n hX dX5_failedException_0 rfl rfl rfl ?_
  refine gq_iconst (v := nI 0) hX dX5_failedException_1 rfl (by decide) ?_
  refine gq_putf hX dX5_failedException_2 rfl fX5_42 rfl rfl rfl (mqR0 hb) (Nat.le_of_ble_eq_true rfl) (hb.2 0 (by decide)) (mqW0_0 hb) ?_
  refine gq_aload_n hX dX5_failedException_5 rfl rfl rfl ?_
  refine gq_getf hX dX5_failedException_6 rfl fX5_36 (mqR0 hb) rfl ?_
  refine gq_if_geT (tgt := 20) hX dX5_failedException_9 rfl (i32_lt.mp h) ?_
  refine gq_aload_n hX dX5_failedException_20 rfl rfl rfl ?_
  refine gq_getf hX dX5_failedException_21 rfl fX5_302 (mqR0 hb) rfl ?_
  exact gq_iret hX hQ dX5_failedException_24 rfl ⟨rfl, rfl⟩

theorem n64 {r : UInt64} (h : Jvm.FP.Core.dIsNaN r = false) : vf_n64 r := by
  unfold vf_n64
  rw [UInt64.le_iff_toNat_le, UInt64.toNat_and]
  have e : (0x7fffffffffffffff : UInt64).toNat = 2 ^ 63 - 1 := by decide
  have e2 : (0x7ff0000000000000 : UInt64).toNat = 9218868437227405312 := by decide
  rw [e, e2, Nat.and_two_pow_sub_one_eq_mod]
  rcases Nat.lt_or_ge 9218868437227405312 (r.toNat % 2 ^ 63) with h2 | h2
  · rw [(Jvm.FP.Core.isNaN_bits r).mpr h2] at h
    cases h
  · exact h2
theorem n32 {r : UInt32} (h : Jvm.FP.Core.fIsNaN r = false) : vf_n32 r := by
  unfold vf_n32
  rw [UInt32.le_iff_toNat_le, UInt32.toNat_and]
  have e : (0x7fffffff : UInt32).toNat = 2 ^ 31 - 1 := by decide
  have e2 : (0x7f800000 : UInt32).toNat = 2139095040 := by decide
  rw [e, e2, Nat.and_two_pow_sub_one_eq_mod]
  rcases Nat.lt_or_ge 2139095040 (r.toNat % 2 ^ 31) with h2 | h2
  · rw [(Jvm.FP.Core.isNaN_bits32 r).mpr h2] at h
    cases h
  · exact h2
theorem dq_num {x y : Int32} (h : y ≠ 0) : Jvm.FP.Core.dIsNaN (FP.ddiv (FP.i2d x) (FP.i2d y)) = false := Jvm.FP.Core.ddiv_out (Jvm.FP.Core.i2d_fin x).notNaN (Jvm.FP.Core.i2d_fin y) (fun z => Jvm.FP.Core.i2d_ne_zero h ((Jvm.FP.Core.zero_bits2 _).mp z))
theorem fq_num {x y : Int32} (h : y ≠ 0) : Jvm.FP.Core.fIsNaN (FP.fdiv (FP.i2f x) (FP.i2f y)) = false := Jvm.FP.Core.fdiv_out (Jvm.FP.Core.i2f_fin x).notNaN (Jvm.FP.Core.i2f_fin y) (fun z => Jvm.FP.Core.i2f_ne_zero h ((Jvm.FP.Core.zero_bits232 _).mp z))
theorem nI_nz0 {n : Nat} (h : 0 < n) (h2 : n < 100000) : nI n ≠ 0 := fun e => by have := (nI_eq (by omega) (by decide)).mp (show nI n = nI 0 from e); omega

set_option maxRecDepth 100000 in
set_option maxHeartbeats 4000000 in
theorem mr_mean_bad {E : Ev} {b : Nat → Nat} {T : St} {M : Hp} (hb : Lay E 9 b) {S : St} {nc nt no : Nat} (hwf : Wf S nc nt no) (h0 : nc = 0) : Ct E mX5_meanArrears [.ref (b 0)] (MdW E b T (wOf S nc nt no) M) (eqR (some (.double (FP.i2d (nI 0)))) (MdW E b (setS T 0 (nI 1)) (wOf S nc nt no) M)) 0 0 := by
  refine Ct.of gmX5_meanArrears (ls := [.ref (b 0)]) rfl rfl (Nat.le_of_ble_eq_true rfl) ?_
  intro X hX Q hQ
  have hwf2 := hwf
  obtain ⟨hnc, hncl, hnt, hntl, hno, hnol⟩ := hwf2
  have hw0 : wOf S nc nt no 0 = nI nc := hnc
  have hw1 : wOf S nc nt no 1 = nI nt := hnt
  have hw2 : wOf S nc nt no 2 = nI no := hno
  refine gq_aload_n hX dX5_meanArrears_0 rfl rfl rfl ?_
  refine gq_iconst (v := nI 0) hX dX5_meanArrears_1 rfl (by decide) ?_
  refine gq_putf hX dX5_meanArrears_2 rfl fX5_42 rfl rfl rfl (mqR0 hb) (Nat.le_of_ble_eq_true rfl) (hb.2 0 (by decide)) (mqW0_0 hb) ?_
  refine gq_aload_n hX dX5_meanArrears_5 rfl rfl rfl ?_
  refine gq_getf hX dX5_meanArrears_6 rfl fX5_7 (mqR0 hb) rfl ?_
  refine gq_iconst (v := nI 0) hX dX5_meanArrears_9 rfl (by decide) ?_
  refine gq_ialdN hX dX5_meanArrears_10 rfl (mqR1 hb) rfl (by omega) (Nat.le_of_ble_eq_true rfl) ?_
  rw [hw0]
  refine gq_if_neF (tgt := 23) hX dX5_meanArrears_11 rfl rfl (by rw [h0]; rfl) ?_
  refine gq_aload_n hX dX5_meanArrears_14 rfl rfl rfl ?_
  refine gq_iconst (v := nI 1) hX dX5_meanArrears_15 rfl (by decide) ?_
  refine gq_callVe hX dX5_meanArrears_16 rfl vX5_79 (mt_fails hb _) rfl (mqR0 hb) rfl rfl (Nat.le_of_ble_eq_true rfl) ⟨(Nat.le_of_ble_eq_true rfl), (Nat.le_of_ble_eq_true rfl)⟩ (Nat.zero_add _) (Nat.zero_add _) ?_
  refine gq_i2d hX dX5_meanArrears_19 rfl ?_
  refine gq_goto (tgt := 36) hX dX5_meanArrears_20 rfl ?_
  exact gq_dret hX hQ dX5_meanArrears_36 rfl ⟨rfl, by rw [setS_2]⟩

set_option maxRecDepth 100000 in
set_option maxHeartbeats 4000000 in
theorem mr_mean_ok {E : Ev} {b : Nat → Nat} {T : St} {M : Hp} (hb : Lay E 9 b) {S : St} {nc nt no : Nat} (hwf : Wf S nc nt no) (h0 : 0 < nc) : Ct E mX5_meanArrears [.ref (b 0)] (MdW E b T (wOf S nc nt no) M) (eqR (some (.double (FP.ddiv (FP.i2d (arrSum S nc)) (FP.i2d (nI nc))))) (MdW E b (setS T 0 (nI 0)) (wOf S nc nt no) M)) 0 0 := by
  refine Ct.of gmX5_meanArrears (ls := [.ref (b 0)]) rfl rfl (Nat.le_of_ble_eq_true rfl) ?_
  intro X hX Q hQ
  have hwf2 := hwf
  obtain ⟨hnc, hncl, hnt, hntl, hno, hnol⟩ := hwf2
  have hw0 : wOf S nc nt no 0 = nI nc := hnc
  have hw1 : wOf S nc nt no 1 = nI nt := hnt
  have hw2 : wOf S nc nt no 2 = nI no := hno
  refine gq_aload_n hX dX5_meanArrears_0 rfl rfl rfl ?_
  refine gq_iconst (v := nI 0) hX dX5_meanArrears_1 rfl (by decide) ?_
  refine gq_putf hX dX5_meanArrears_2 rfl fX5_42 rfl rfl rfl (mqR0 hb) (Nat.le_of_ble_eq_true rfl) (hb.2 0 (by decide)) (mqW0_0 hb) ?_
  refine gq_aload_n hX dX5_meanArrears_5 rfl rfl rfl ?_
  refine gq_getf hX dX5_meanArrears_6 rfl fX5_7 (mqR0 hb) rfl ?_
  refine gq_iconst (v := nI 0) hX dX5_meanArrears_9 rfl (by decide) ?_
  refine gq_ialdN hX dX5_meanArrears_10 rfl (mqR1 hb) rfl (by omega) (Nat.le_of_ble_eq_true rfl) ?_
  rw [hw0]
  refine gq_if_neT (tgt := 23) hX dX5_meanArrears_11 rfl (nI_nz0 h0 (by omega)) ?_
  refine gq_aload_n hX dX5_meanArrears_23 rfl rfl rfl ?_
  refine gq_callVe hX dX5_meanArrears_24 rfl vX5_217 (mt_arrAll hb hwf) rfl (mqR0 hb) rfl rfl (Nat.le_of_ble_eq_true rfl) ⟨(Nat.le_of_ble_eq_true rfl), (Nat.le_of_ble_eq_true rfl)⟩ (Nat.zero_add _) (Nat.zero_add _) ?_
  refine gq_i2d hX dX5_meanArrears_27 rfl ?_
  refine gq_aload_n hX dX5_meanArrears_28 rfl rfl rfl ?_
  refine gq_getf hX dX5_meanArrears_29 rfl fX5_7 (mqR0 hb) rfl ?_
  refine gq_iconst (v := nI 0) hX dX5_meanArrears_32 rfl (by decide) ?_
  refine gq_ialdN hX dX5_meanArrears_33 rfl (mqR1 hb) rfl (by omega) (Nat.le_of_ble_eq_true rfl) ?_
  rw [hw0]
  refine gq_i2d hX dX5_meanArrears_34 rfl ?_
  refine gq_ddiv hX dX5_meanArrears_35 rfl (n64 (dq_num (nI_nz0 h0 (by omega)))) ?_
  exact gq_dret hX hQ dX5_meanArrears_36 rfl ⟨rfl, rfl⟩

set_option maxRecDepth 100000 in
set_option maxHeartbeats 4000000 in
theorem mr_share_bad {E : Ev} {b : Nat → Nat} {T : St} {M : Hp} (hb : Lay E 9 b) {S : St} {nc nt no : Nat} (hwf : Wf S nc nt no) (h0 : nt = 0) : Ct E mX5_rentedShare [.ref (b 0)] (MdW E b T (wOf S nc nt no) M) (eqR (some (.float (FP.i2f (nI 0)))) (MdW E b (setS T 0 (nI 1)) (wOf S nc nt no) M)) 0 0 := by
  refine Ct.of gmX5_rentedShare (ls := [.ref (b 0)]) rfl rfl (Nat.le_of_ble_eq_true rfl) ?_
  intro X hX Q hQ
  have hwf2 := hwf
  obtain ⟨hnc, hncl, hnt, hntl, hno, hnol⟩ := hwf2
  have hw0 : wOf S nc nt no 0 = nI nc := hnc
  have hw1 : wOf S nc nt no 1 = nI nt := hnt
  have hw2 : wOf S nc nt no 2 = nI no := hno
  refine gq_aload_n hX dX5_rentedShare_0 rfl rfl rfl ?_
  refine gq_iconst (v := nI 0) hX dX5_rentedShare_1 rfl (by decide) ?_
  refine gq_putf hX dX5_rentedShare_2 rfl fX5_42 rfl rfl rfl (mqR0 hb) (Nat.le_of_ble_eq_true rfl) (hb.2 0 (by decide)) (mqW0_0 hb) ?_
  refine gq_aload_n hX dX5_rentedShare_5 rfl rfl rfl ?_
  refine gq_getf hX dX5_rentedShare_6 rfl fX5_7 (mqR0 hb) rfl ?_
  refine gq_iconst (v := nI 1) hX dX5_rentedShare_9 rfl (by decide) ?_
  refine gq_ialdN hX dX5_rentedShare_10 rfl (mqR1 hb) rfl (by omega) (Nat.le_of_ble_eq_true rfl) ?_
  rw [hw1]
  refine gq_if_neF (tgt := 23) hX dX5_rentedShare_11 rfl rfl (by rw [h0]; rfl) ?_
  refine gq_aload_n hX dX5_rentedShare_14 rfl rfl rfl ?_
  refine gq_iconst (v := nI 1) hX dX5_rentedShare_15 rfl (by decide) ?_
  refine gq_callVe hX dX5_rentedShare_16 rfl vX5_79 (mt_fails hb _) rfl (mqR0 hb) rfl rfl (Nat.le_of_ble_eq_true rfl) ⟨(Nat.le_of_ble_eq_true rfl), (Nat.le_of_ble_eq_true rfl)⟩ (Nat.zero_add _) (Nat.zero_add _) ?_
  refine gq_i2f hX dX5_rentedShare_19 rfl ?_
  refine gq_goto (tgt := 36) hX dX5_rentedShare_20 rfl ?_
  exact gq_fret hX hQ dX5_rentedShare_36 rfl ⟨rfl, by rw [setS_2]⟩

set_option maxRecDepth 100000 in
set_option maxHeartbeats 4000000 in
theorem mr_share_ok {E : Ev} {b : Nat → Nat} {T : St} {M : Hp} (hb : Lay E 9 b) {S : St} {nc nt no : Nat} (hwf : Wf S nc nt no) (hro : RenOk S nc nt) (h0 : 0 < nt) : Ct E mX5_rentedShare [.ref (b 0)] (MdW E b T (wOf S nc nt no) M) (eqR (some (.float (FP.fdiv (FP.i2f (renC S nt)) (FP.i2f (nI nt))))) (MdW E b (setS T 0 (nI 0)) (wOf S nc nt no) M)) 0 0 := by
  refine Ct.of gmX5_rentedShare (ls := [.ref (b 0)]) rfl rfl (Nat.le_of_ble_eq_true rfl) ?_
  intro X hX Q hQ
  have hwf2 := hwf
  obtain ⟨hnc, hncl, hnt, hntl, hno, hnol⟩ := hwf2
  have hw0 : wOf S nc nt no 0 = nI nc := hnc
  have hw1 : wOf S nc nt no 1 = nI nt := hnt
  have hw2 : wOf S nc nt no 2 = nI no := hno
  refine gq_aload_n hX dX5_rentedShare_0 rfl rfl rfl ?_
  refine gq_iconst (v := nI 0) hX dX5_rentedShare_1 rfl (by decide) ?_
  refine gq_putf hX dX5_rentedShare_2 rfl fX5_42 rfl rfl rfl (mqR0 hb) (Nat.le_of_ble_eq_true rfl) (hb.2 0 (by decide)) (mqW0_0 hb) ?_
  refine gq_aload_n hX dX5_rentedShare_5 rfl rfl rfl ?_
  refine gq_getf hX dX5_rentedShare_6 rfl fX5_7 (mqR0 hb) rfl ?_
  refine gq_iconst (v := nI 1) hX dX5_rentedShare_9 rfl (by decide) ?_
  refine gq_ialdN hX dX5_rentedShare_10 rfl (mqR1 hb) rfl (by omega) (Nat.le_of_ble_eq_true rfl) ?_
  rw [hw1]
  refine gq_if_neT (tgt := 23) hX dX5_rentedShare_11 rfl (nI_nz0 h0 (by omega)) ?_
  refine gq_aload_n hX dX5_rentedShare_23 rfl rfl rfl ?_
  refine gq_callVe hX dX5_rentedShare_24 rfl vX5_220 (mt_rented hb hwf hro) rfl (mqR0 hb) rfl rfl (Nat.le_of_ble_eq_true rfl) ⟨(Nat.le_of_ble_eq_true rfl), (Nat.le_of_ble_eq_true rfl)⟩ (Nat.zero_add _) (Nat.zero_add _) ?_
  refine gq_i2f hX dX5_rentedShare_27 rfl ?_
  refine gq_aload_n hX dX5_rentedShare_28 rfl rfl rfl ?_
  refine gq_getf hX dX5_rentedShare_29 rfl fX5_7 (mqR0 hb) rfl ?_
  refine gq_iconst (v := nI 1) hX dX5_rentedShare_32 rfl (by decide) ?_
  refine gq_ialdN hX dX5_rentedShare_33 rfl (mqR1 hb) rfl (by omega) (Nat.le_of_ble_eq_true rfl) ?_
  rw [hw1]
  refine gq_i2f hX dX5_rentedShare_34 rfl ?_
  refine gq_fdiv hX dX5_rentedShare_35 rfl (n32 (fq_num (nI_nz0 h0 (by omega)))) ?_
  exact gq_fret hX hQ dX5_rentedShare_36 rfl ⟨rfl, rfl⟩

