theorem ex_nI (x : Int32) : ∃ a, x = nI a := ⟨x.toBitVec.toNat, Int32.toBitVec_inj.mp (by show x.toBitVec = BitVec.ofNat 32 x.toBitVec.toNat; simp)⟩
abbrev T0 (T : St) : St := setS T 0 (nI 0)
theorem cop_rd {T : St} {N w : Nat → Int32} {a : Nat} {s : Int32} : copT1 (rdT T N a s) w = rdT (copT1 T w) N a s := by
  show setS (setS (setA (setA T 8 N) 4 (itU w (T.2 4) 91)) 6 (nI a)) 10 s = setS (setS (setA (setA T 4 (itU w (T.2 4) 91)) 8 N) 6 (nI a)) 10 s
  rw [setA_c (by decide)]
theorem itU_w {σ σ2 : Sg} {g : Nat → Int32} : itU (itU (wSg σ) g 91) (wSg σ2) 91 = wSg σ := by
  funext i
  by_cases h : i < 91
  · rw [itU_lt h, itU_lt h]
  · rw [show itU (itU (wSg σ) g 91) (wSg σ2) 91 i = wSg σ2 i from if_neg h]
    exact (w_h (by omega)).trans (w_h (by omega)).symm

set_option maxRecDepth 100000 in
set_option maxHeartbeats 4000000 in
theorem mr_run_bad {E : Ev} {b : Nat → Nat} {T : St} {σ : Sg} {M : Hp} (hb : Lay E 9 b) {l : Ln} (ht : TxP T l) (hp : (pAll l 60 0).1 = false) : Ct E mX5_run [.ref (b 0)] (MdW E b T (wSg σ) M) (fun r M1 => r = some (.int (nI 0)) ∧ ∃ N1 s1, M1 = MdW E b (setS (setS (setS (rdT (T0 T) N1 (pAll l 60 0).2.1 s1) 7 (nI (pAll l 60 0).2.1)) 5 (nI 0)) 0 (nI 1)) (wSg σ) M) 0 0 := by
  refine Ct.of gmX5_run (ls := [.ref (b 0), hole]) rfl rfl (Nat.le_of_ble_eq_true rfl) ?_
  intro X hX Q hQ
  obtain ⟨a0, ha0⟩ := ex_nI ((T0 T).1 6)
  refine gq_aload_n hX dX5_run_0 rfl rfl rfl ?_
  refine gq_iconst (v := nI 0) hX dX5_run_1 rfl (by decide) ?_
  refine gq_putf hX dX5_run_2 rfl fX5_42 rfl rfl rfl (mqR0 hb) (Nat.le_of_ble_eq_true rfl) (hb.2 0 (by decide)) (mqW0_0 hb) ?_
  refine gq_aload_n hX dX5_run_5 rfl rfl rfl ?_
  rw [show setS T 0 (nI 0) = T0 T from rfl, rdT_id ha0]
  refine gq_callV (mc := 0) (ms := 0) (nc1 := 0) (ns1 := 0) hX dX5_run_6 vX5_293 (mp_all hb (T := T0 T) (a := a0) ht) rfl (mqR0 hb) rfl rfl (Nat.le_of_ble_eq_true rfl) ⟨(Nat.le_of_ble_eq_true rfl), (Nat.le_of_ble_eq_true rfl)⟩ rfl rfl ?_
  rintro r M1 ⟨rfl, N1, s1, rfl⟩
  rw [hp, if_neg (by decide)]
  refine gq_if_neF (tgt := 31) hX dX5_run_9 rfl rfl rfl ?_
  refine gq_aload_n hX dX5_run_12 rfl rfl rfl ?_
  refine gq_aload_n hX dX5_run_13 rfl rfl rfl ?_
  refine gq_getf hX dX5_run_14 rfl fX5_235 (mqR0 hb) rfl ?_
  rw [show (rdT (T0 T) N1 (pAll l 60 0).2.1 s1).1 6 = nI (pAll l 60 0).2.1 from rfl]
  refine gq_putf hX dX5_run_17 rfl fX5_32 rfl rfl rfl (mqR0 hb) (Nat.le_of_ble_eq_true rfl) (hb.2 0 (by decide)) (mqW0_14 hb) ?_
  refine gq_aload_n hX dX5_run_20 rfl rfl rfl ?_
  refine gq_iconst (v := nI 0) hX dX5_run_21 rfl (by decide) ?_
  refine gq_putf hX dX5_run_22 rfl fX5_232 rfl rfl rfl (mqR0 hb) (Nat.le_of_ble_eq_true rfl) (hb.2 0 (by decide)) (mqW0_12 hb) ?_
  refine gq_aload_n hX dX5_run_25 rfl rfl rfl ?_
  refine gq_iconst (v := nI 1) hX dX5_run_26 rfl (by decide) ?_
  refine gq_callVe hX dX5_run_27 rfl vX5_79 (mt_fails hb _) rfl (mqR0 hb) rfl rfl (Nat.le_of_ble_eq_true rfl) ⟨(Nat.le_of_ble_eq_true rfl), (Nat.le_of_ble_eq_true rfl)⟩ (Nat.zero_add _) (Nat.zero_add _) ?_
  exact gq_iret hX hQ dX5_run_30 rfl ⟨rfl, N1, s1, rfl⟩

set_option maxRecDepth 100000 in
set_option maxHeartbeats 4000000 in
theorem mr_run_ok {E : Ev} {b : Nat → Nat} {T : St} {σ : Sg} {M : Hp} (hb : Lay E 9 b) {l : Ln} (ht : TxP T l) {B : Nat} (hok : OkS σ B) (hB : B + 100000 < 2 ^ 28) (hp : (pAll l 60 0).1 = true) {f c : Nat} (hr : RgH T f c) (hf : (exL (pAll l 60 0).2.2 σ 0).2.2 = 0) : Ct E mX5_run [.ref (b 0)] (MdW E b T (wSg σ) M) (fun r M1 => r = some (.int (nI (exL (pAll l 60 0).2.2 σ 0).2.1)) ∧ ∃ N3 a3 s3, M1 = MdW E b (keepT (setS (rdT (dnT (copT1 (T0 T) (wSg σ)) (exL (pAll l 60 0).2.2 σ 0).2.1) N3 a3 s3) 5 (nI 0)) f c) (wSg (exL (pAll l 60 0).2.2 σ 0).1) M) 0 0 := by
  refine Ct.of gmX5_run (ls := [.ref (b 0), hole]) rfl rfl (Nat.le_of_ble_eq_true rfl) ?_
  intro X hX Q hQ
  obtain ⟨a0, ha0⟩ := ex_nI ((T0 T).1 6)
  refine gq_aload_n hX dX5_run_0 rfl rfl rfl ?_
  refine gq_iconst (v := nI 0) hX dX5_run_1 rfl (by decide) ?_
  refine gq_putf hX dX5_run_2 rfl fX5_42 rfl rfl rfl (mqR0 hb) (Nat.le_of_ble_eq_true rfl) (hb.2 0 (by decide)) (mqW0_0 hb) ?_
  refine gq_aload_n hX dX5_run_5 rfl rfl rfl ?_
  rw [show setS T 0 (nI 0) = T0 T from rfl, rdT_id ha0]
  refine gq_callV (mc := 0) (ms := 0) (nc1 := 0) (ns1 := 0) hX dX5_run_6 vX5_293 (mp_all hb (T := T0 T) (a := a0) ht) rfl (mqR0 hb) rfl rfl (Nat.le_of_ble_eq_true rfl) ⟨(Nat.le_of_ble_eq_true rfl), (Nat.le_of_ble_eq_true rfl)⟩ rfl rfl ?_
  rintro r M1 ⟨rfl, N1, s1, rfl⟩
  rw [hp, if_pos rfl]
  refine gq_if_neT (tgt := 31) hX dX5_run_9 rfl (by decide) ?_
  refine gq_aload_n hX dX5_run_31 rfl rfl rfl ?_
  refine gq_callVe hX dX5_run_32 rfl vX5_51 (mt_copies hb) rfl (mqR0 hb) rfl rfl (Nat.le_of_ble_eq_true rfl) ⟨(Nat.le_of_ble_eq_true rfl), (Nat.le_of_ble_eq_true rfl)⟩ (Nat.zero_add _) (Nat.zero_add _) ?_
  rw [cop_rd]
  refine gq_aload_n hX dX5_run_35 rfl rfl rfl ?_
  refine gq_callV (mc := 0) (ms := 0) (nc1 := 0) (ns1 := 0) hX dX5_run_36 vX5_296 (mp_does hb (T := copT1 (T0 T) (wSg σ)) (l := l) ht hok hB hp) rfl (mqR0 hb) rfl rfl (Nat.le_of_ble_eq_true rfl) ⟨(Nat.le_of_ble_eq_true rfl), (Nat.le_of_ble_eq_true rfl)⟩ rfl rfl ?_
  rintro r M1 ⟨rfl, N3, a3, s3, rfl⟩
  refine gq_istore_n hX dX5_run_39 rfl rfl (Nat.le_of_ble_eq_true rfl) rfl ?_
  refine gq_aload_n hX dX5_run_40 rfl rfl rfl ?_
  refine gq_iconst (v := nI 0) hX dX5_run_41 rfl (by decide) ?_
  refine gq_putf hX dX5_run_42 rfl fX5_232 rfl rfl rfl (mqR0 hb) (Nat.le_of_ble_eq_true rfl) (hb.2 0 (by decide)) (mqW0_12 hb) ?_
  refine gq_iload_n hX dX5_run_45 rfl rfl rfl ?_
  refine gq_if_neF (tgt := 58) hX dX5_run_46 rfl rfl hf ?_
  refine gq_aload_n hX dX5_run_49 rfl rfl rfl ?_
  refine gq_callVe hX dX5_run_50 rfl vX5_54 (mt_keeps hb (T := setS (rdT (dnT (copT1 (T0 T) (wSg σ)) (exL (pAll l 60 0).2.2 σ 0).2.1) N3 a3 s3) 5 (nI 0)) (f := f) (c := c) hr) rfl (mqR0 hb) rfl rfl (Nat.le_of_ble_eq_true rfl) ⟨(Nat.le_of_ble_eq_true rfl), (Nat.le_of_ble_eq_true rfl)⟩ (Nat.zero_add _) (Nat.zero_add _) ?_
  refine gq_aload_n hX dX5_run_53 rfl rfl rfl ?_
  refine gq_getf hX dX5_run_54 rfl fX5_284 (mqR0 hb) rfl ?_
  exact gq_iret hX hQ dX5_run_57 rfl ⟨rfl, N3, a3, s3, rfl⟩

set_option maxRecDepth 100000 in
set_option maxHeartbeats 4000000 in
theorem mr_run_fail {E : Ev} {b : Nat → Nat} {T : St} {σ : Sg} {M : Hp} (hb : Lay E 9 b) {l : Ln} (ht : TxP T l) {B : Nat} (hok : OkS σ B) (hB : B + 100000 < 2 ^ 28) (hp : (pAll l 60 0).1 = true) (hf : ¬ (exL (pAll l 60 0).2.2 σ 0).2.2 = 0) : Ct E mX5_run [.ref (b 0)] (MdW E b T (wSg σ) M) (fun r M1 => r = some (.int (nI 0)) ∧ ∃ N3 a3 s3, M1 = MdW E b (setS (setS (setS (setS (rdT (dnT (copT1 (T0 T) (wSg σ)) (exL (pAll l 60 0).2.2 σ 0).2.1) N3 a3 s3) 5 (nI 0)) 8 (nI (exL (pAll l 60 0).2.2 σ 0).2.1)) 9 (exL (pAll l 60 0).2.2 σ 0).2.2) 0 (nI 2)) (wSg σ) M) 0 0 := by
  refine Ct.of gmX5_run (ls := [.ref (b 0), hole]) rfl rfl (Nat.le_of_ble_eq_true rfl) ?_
  intro X hX Q hQ
  obtain ⟨a0, ha0⟩ := ex_nI ((T0 T).1 6)
  refine gq_aload_n hX dX5_run_0 rfl rfl rfl ?_
  refine gq_iconst (v := nI 0) hX dX5_run_1 rfl (by decide) ?_
  refine gq_putf hX dX5_run_2 rfl fX5_42 rfl rfl rfl (mqR0 hb) (Nat.le_of_ble_eq_true rfl) (hb.2 0 (by decide)) (mqW0_0 hb) ?_
  refine gq_aload_n hX dX5_run_5 rfl rfl rfl ?_
  rw [show setS T 0 (nI 0) = T0 T from rfl, rdT_id ha0]
  refine gq_callV (mc := 0) (ms := 0) (nc1 := 0) (ns1 := 0) hX dX5_run_6 vX5_293 (mp_all hb (T := T0 T) (a := a0) ht) rfl (mqR0 hb) rfl rfl (Nat.le_of_ble_eq_true rfl) ⟨(Nat.le_of_ble_eq_true rfl), (Nat.le_of_ble_eq_true rfl)⟩ rfl rfl ?_
  rintro r M1 ⟨rfl, N1, s1, rfl⟩
  rw [hp, if_pos rfl]
  refine gq_if_neT (tgt := 31) hX dX5_run_9 rfl (by decide) ?_
  refine gq_aload_n hX dX5_run_31 rfl rfl rfl ?_
  refine gq_callVe hX dX5_run_32 rfl vX5_51 (mt_copies hb) rfl (mqR0 hb) rfl rfl (Nat.le_of_ble_eq_true rfl) ⟨(Nat.le_of_ble_eq_true rfl), (Nat.le_of_ble_eq_true rfl)⟩ (Nat.zero_add _) (Nat.zero_add _) ?_
  rw [cop_rd]
  refine gq_aload_n hX dX5_run_35 rfl rfl rfl ?_
  refine gq_callV (mc := 0) (ms := 0) (nc1 := 0) (ns1 := 0) hX dX5_run_36 vX5_296 (mp_does hb (T := copT1 (T0 T) (wSg σ)) (l := l) ht hok hB hp) rfl (mqR0 hb) rfl rfl (Nat.le_of_ble_eq_true rfl) ⟨(Nat.le_of_ble_eq_true rfl), (Nat.le_of_ble_eq_true rfl)⟩ rfl rfl ?_
  rintro r M1 ⟨rfl, N3, a3, s3, rfl⟩
  refine gq_istore_n hX dX5_run_39 rfl rfl (Nat.le_of_ble_eq_true rfl) rfl ?_
  refine gq_aload_n hX dX5_run_40 rfl rfl rfl ?_
  refine gq_iconst (v := nI 0) hX dX5_run_41 rfl (by decide) ?_
  refine gq_putf hX dX5_run_42 rfl fX5_232 rfl rfl rfl (mqR0 hb) (Nat.le_of_ble_eq_true rfl) (hb.2 0 (by decide)) (mqW0_12 hb) ?_
  refine gq_iload_n hX dX5_run_45 rfl rfl rfl ?_
  refine gq_if_neT (tgt := 58) hX dX5_run_46 rfl hf ?_
  refine gq_aload_n hX dX5_run_58 rfl rfl rfl ?_
  refine gq_callVe hX dX5_run_59 rfl vX5_299 (mt_goesBack hb) rfl (mqR0 hb) rfl rfl (Nat.le_of_ble_eq_true rfl) ⟨(Nat.le_of_ble_eq_true rfl), (Nat.le_of_ble_eq_true rfl)⟩ (Nat.zero_add _) (Nat.zero_add _) ?_
  rw [show itU ((setS (rdT (dnT (copT1 (T0 T) (wSg σ)) (exL (pAll l 60 0).2.2 σ 0).2.1) N3 a3 s3) 5 (nI 0)).2 4) (wSg (exL (pAll l 60 0).2.2 σ 0).1) 91 = wSg σ from itU_w]
  refine gq_aload_n hX dX5_run_62 rfl rfl rfl ?_
  refine gq_aload_n hX dX5_run_63 rfl rfl rfl ?_
  refine gq_getf hX dX5_run_64 rfl fX5_284 (mqR0 hb) rfl ?_
  refine gq_putf hX dX5_run_67 rfl fX5_36 rfl rfl rfl (mqR0 hb) (Nat.le_of_ble_eq_true rfl) (hb.2 0 (by decide)) (mqW0_15 hb) ?_
  refine gq_aload_n hX dX5_run_70 rfl rfl rfl ?_
  refine gq_iload_n hX dX5_run_71 rfl rfl rfl ?_
  refine gq_putf hX dX5_run_72 rfl fX5_302 rfl rfl rfl (mqR0 hb) (Nat.le_of_ble_eq_true rfl) (hb.2 0 (by decide)) (mqW0_16 hb) ?_
  refine gq_aload_n hX dX5_run_75 rfl rfl rfl ?_
  refine gq_iconst (v := nI 2) hX dX5_run_76 rfl (by decide) ?_
  refine gq_callVe hX dX5_run_77 rfl vX5_79 (mt_fails hb _) rfl (mqR0 hb) rfl rfl (Nat.le_of_ble_eq_true rfl) ⟨(Nat.le_of_ble_eq_true rfl), (Nat.le_of_ble_eq_true rfl)⟩ (Nat.zero_add _) (Nat.zero_add _) ?_
  exact gq_iret hX hQ dX5_run_80 rfl ⟨rfl, N3, a3, s3, rfl⟩

