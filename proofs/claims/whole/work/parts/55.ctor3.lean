theorem Bd.fin3 {E : Ev} {M M1 : Hp} {n : Nat} {b : Nat → Nat} {c : Nat → va_E} {a : Nat} {G : (Nat → Nat) → Nat → va_E} {R : (Nat → Nat) → Prop} (h : Bd E M M1 n b c) (h0 : b 0 = a) (e : ∀ k, k < n → G b k = c k) (hr : R b) : ∃ b', b' 0 = a ∧ Bd E M M1 n b' (G b') ∧ R b' := ⟨b, h0, h.cg (fun k hk => ⟨rfl, e k hk⟩), hr⟩
def comC (E : Ev) (b : Nat → Nat) (x1 x2 : va_E) : Nat → va_E := fun k => match k with
  | 0 => .inr (4, [.ref (b 1), .ref (b 3), .ref (b 4), .int 0, .int 0])
  | 1 => x1
  | 2 => x2
  | 3 => .inl (E.2.2.2.1 0, 60, .inl (fun _ => 0))
  | _ => .inl (E.2.2.2.1 0, 120, .inl (fun _ => 0))
abbrev z0 : Nat → Nat := fun _ => 0
def faB (a : Nat) (s0 s1 s2 bh bc sb : Nat → Nat) : Nat → Nat := ap 151 (ap 146 (ap 40 (ap 27 (ap 14 (ap 1 (fun _ => a) s0) s1) s2) bh) bc) sb

def faC (E : Ev) (s0 s1 s2 bh bc sb : Nat → Nat) (x1 x2 y1 y2 : va_E) : Nat → va_E := fun k => if k = 0 then .inr (8, [.ref (s0 0), .ref (s1 0), .ref (s2 0), .int 0, .ref (bh 0), .ref (bc 0), .int (-1), .int (-1), .int (-1), .ref (sb 0)]) else ap 151 (ap 146 (ap 40 (ap 27 (ap 14 (ap 1 (fun _ => .inr (8, [.null, .null, .null, .int 0, .null, .null, .int 0, .int 0, .int 0, .null])) (sxC E s0 S0)) (sxC E s1 S0)) (sxC E s2 S0)) (ringC E bh 8)) (comC E bc x1 x2)) (fun k => if k < 1 then y1 else y2) k

set_option maxRecDepth 100000 in
set_option maxHeartbeats 4000000 in
theorem ci_X0_init {E : Ev} {M0 : Hp} {a : Nat} (h0 : M0 a = none) (hl : E.2.2.1 ≤ a) : Ct E mX0_init [.ref a] (hput M0 a (.inr (4, [.null, .null, .null, .int 0, .int 0]))) (fun r M1 => r = none ∧ ∃ x1 x2, ∃ b : Nat → Nat, b 0 = a ∧ Bd E M0 M1 5 b (comC E b x1 x2) ∧ SbP E (b 1) z0 0 (b 2) 16 M1) 4 200 := by
  refine Ct.of gmX0_init (ls := [.ref a]) rfl rfl (Nat.le_of_ble_eq_true rfl) ?_
  intro X hX Q hQ
  have hB : Bd E M0 _ 1 _ _ := Bd.one (x := .inr (4, [.null, .null, .null, .int 0, .int 0])) h0 hl
  refine gq_aload_n hX dX0_init_0 rfl rfl rfl ?_
  refine gq_objI hX dX0_init_1 rfl (in1 169 rfl rfl) (in1 36 rfl rfl) (in1 37 rfl rfl) (Nat.le_of_ble_eq_true rfl) (Nat.le_of_ble_eq_true rfl) ?_
  refine gq_aload_n hX dX0_init_4 rfl rfl rfl ?_
  refine gq_newc (fs := [.null, .int 0, .int 0, .int 0]) (nc1 := 3) (ns1 := 196) hX dX0_init_5 rfl kJ4 ⟨in1 170 rfl rfl, in1 171 rfl rfl, in1 7 rfl rfl⟩ (by decide) rfl rfl ?_
  intro a1 hn1 hl1
  refine gq_dup hX dX0_init_8 rfl rfl ?_
  refine gq_callI (mc := 1) (ms := 16) (nc1 := 2) (ns1 := 180) hX dX0_init_9 vX0_11 (ct_sbInit (hput_s _ _ _) hl1) rfl rfl (Nat.le_of_ble_eq_true rfl) ⟨(Nat.le_of_ble_eq_true rfl), (Nat.le_of_ble_eq_true rfl)⟩ rfl rfl ?_
  rintro r M1 ⟨rfl, v1, hv1, hs1, hf1⟩
  obtain ⟨x1, x2, hSB1⟩ := sb_bd hn1 hl1 hv1 hs1 hf1
  have hB1 := hB.app hSB1
  refine gq_putFB hB1 (j := 0) hX (Nat.le_of_ble_eq_true rfl) rfl rfl dX0_init_12 rfl fX0_12 rfl rfl rfl rfl rfl (Nat.le_of_ble_eq_true rfl) ?_
  intro M2 hB2
  refine gq_aload_n hX dX0_init_15 rfl rfl rfl ?_
  refine gq_bipush (v := nI 60) hX dX0_init_16 rfl (by decide) ?_
  refine gq_newaB hB2 (fty := .int) (t := 0) (N := 60) (a0 := (60, .inl (fun _ => 0))) (nc1 := 1) (ns1 := 120) hX dX0_init_18 rfl rfl (in1 88 rfl rfl) rfl (fun _ _ h => h) (fun _ => rfl) (by decide) (by decide) (by decide) rfl rfl ?_
  intro a3 M3 hB3
  refine gq_putFB hB3 (j := 0) hX (Nat.le_of_ble_eq_true rfl) rfl rfl dX0_init_20 rfl fX0_18 rfl rfl rfl rfl rfl (Nat.le_of_ble_eq_true rfl) ?_
  intro M4 hB4
  refine gq_aload_n hX dX0_init_23 rfl rfl rfl ?_
  refine gq_bipush (v := nI 120) hX dX0_init_24 rfl (by decide) ?_
  refine gq_newaB hB4 (fty := .int) (t := 0) (N := 120) (a0 := (120, .inl (fun _ => 0))) (nc1 := 0) (ns1 := 0) hX dX0_init_26 rfl rfl (in1 88 rfl rfl) rfl (fun _ _ h => h) (fun _ => rfl) (by decide) (by decide) (by decide) rfl rfl ?_
  intro a5 M5 hB5
  refine gq_putFB hB5 (j := 0) hX (Nat.le_of_ble_eq_true rfl) rfl rfl dX0_init_28 rfl fX0_22 rfl rfl rfl rfl rfl (Nat.le_of_ble_eq_true rfl) ?_
  intro M6 hB6
  refine gq_aload_n hX dX0_init_31 rfl rfl rfl ?_
  refine gq_iconst (v := nI 0) hX dX0_init_32 rfl (by decide) ?_
  refine gq_putB hB6 (j := 0) hX (Nat.le_of_ble_eq_true rfl) rfl rfl dX0_init_33 rfl fX0_25 rfl rfl rfl (Nat.le_of_ble_eq_true rfl) ?_
  intro M7 hB7
  refine gq_aload_n hX dX0_init_36 rfl rfl rfl ?_
  refine gq_iconst (v := nI 0) hX dX0_init_37 rfl (by decide) ?_
  refine gq_putB hB7 (j := 0) hX (Nat.le_of_ble_eq_true rfl) rfl rfl dX0_init_38 rfl fX0_29 rfl rfl rfl (Nat.le_of_ble_eq_true rfl) ?_
  intro M8 hB8
  have hs9 := hs1.moved (M1 := M8) ((hB8.1 1 (by decide)).2.2.trans (hSB1.1 0 (by decide)).2.2.symm) ((hB8.1 2 (by decide)).2.2.trans (hSB1.1 1 (by decide)).2.2.symm)
  exact gq_vret hX hQ dX0_init_41 rfl ⟨rfl, x1, x2, Bd.fin3 (n := 5) hB8 rfl (fun k hk => by
      match k, hk with
      | 0, _ => exact rfl
      | 1, _ => exact rfl
      | 2, _ => exact rfl
      | 3, _ => exact rfl
      | 4, _ => exact rfl
      | k + 5, h => exact absurd h (by omega)) hs9⟩

set_option maxRecDepth 100000 in
set_option maxHeartbeats 4000000 in
theorem ci_X4_init {E : Ev} {M0 : Hp} {a : Nat} (h0 : M0 a = none) (hl : E.2.2.1 ≤ a) : Ct E mX4_init [.ref a] (hput M0 a (.inr (8, [.null, .null, .null, .int 0, .null, .null, .int 0, .int 0, .int 0, .null]))) (fun r M1 => r = none ∧ ∃ s0 s1 s2 bh bc sb x1 x2 y1 y2, Bd E M0 M1 153 (faB a s0 s1 s2 bh bc sb) (faC E s0 s1 s2 bh bc sb x1 x2 y1 y2) ∧ SbP E (bc 1) z0 0 (bc 2) 16 M1 ∧ SbP E (sb 0) z0 0 (sb 1) 16 M1) 152 1369 := by
  refine Ct.of gmX4_init (ls := [.ref a]) rfl rfl (Nat.le_of_ble_eq_true rfl) ?_
  intro X hX Q hQ
  have hB : Bd E M0 _ 1 _ _ := Bd.one (x := .inr (8, [.null, .null, .null, .int 0, .null, .null, .int 0, .int 0, .int 0, .null])) h0 hl
  refine gq_aload_n hX dX4_init_0 rfl rfl rfl ?_
  refine gq_objI hX dX4_init_1 rfl (in1 35 rfl rfl) (in1 36 rfl rfl) (in1 37 rfl rfl) (Nat.le_of_ble_eq_true rfl) (Nat.le_of_ble_eq_true rfl) ?_
  refine gq_aload_n hX dX4_init_4 rfl rfl rfl ?_
  refine gq_newc (fs := [.int 0, .null, .null, .null, .int 0, .null, .null, .null, .int 0, .int 0, .int 0, .int 0, .int 0]) (nc1 := 151) (ns1 := 1356) hX dX4_init_5 rfl kX3 ⟨in1 38 rfl rfl, in1 39 rfl rfl, in1 2 rfl rfl⟩ (by decide) rfl rfl ?_
  intro a1 hn1 hl1
  refine gq_dup hX dX4_init_8 rfl rfl ?_
  refine gq_callN (mc := 12) (ms := 90) (nc1 := 139) (ns1 := 1266) hX dX4_init_9 vX4_9 (ci_X3_init hn1 hl1) rfl rfl (Nat.le_of_ble_eq_true rfl) ⟨(Nat.le_of_ble_eq_true rfl), (Nat.le_of_ble_eq_true rfl)⟩ rfl rfl ?_
  rintro r M1 ⟨rfl, s0, rfl, hS0⟩
  have hB1 := hB.app hS0
  refine gq_putFB hB1 (j := 0) hX (Nat.le_of_ble_eq_true rfl) rfl rfl dX4_init_12 rfl fX4_10 rfl rfl rfl rfl rfl (Nat.le_of_ble_eq_true rfl) ?_
  intro M2 hB2
  refine gq_aload_n hX dX4_init_15 rfl rfl rfl ?_
  refine gq_newc (fs := [.int 0, .null, .null, .null, .int 0, .null, .null, .null, .int 0, .int 0, .int 0, .int 0, .int 0]) (nc1 := 138) (ns1 := 1253) hX dX4_init_16 rfl kX3 ⟨in1 38 rfl rfl, in1 39 rfl rfl, in1 2 rfl rfl⟩ (by decide) rfl rfl ?_
  intro a3 hn3 hl3
  refine gq_dup hX dX4_init_19 rfl rfl ?_
  refine gq_callN (mc := 12) (ms := 90) (nc1 := 126) (ns1 := 1163) hX dX4_init_20 vX4_9 (ci_X3_init hn3 hl3) rfl rfl (Nat.le_of_ble_eq_true rfl) ⟨(Nat.le_of_ble_eq_true rfl), (Nat.le_of_ble_eq_true rfl)⟩ rfl rfl ?_
  rintro r M3 ⟨rfl, s1, rfl, hS1⟩
  have hB3 := hB2.app hS1
  refine gq_putFB hB3 (j := 0) hX (Nat.le_of_ble_eq_true rfl) rfl rfl dX4_init_23 rfl fX4_16 rfl rfl rfl rfl rfl (Nat.le_of_ble_eq_true rfl) ?_
  intro M4 hB4
  refine gq_aload_n hX dX4_init_26 rfl rfl rfl ?_
  refine gq_newc (fs := [.int 0, .null, .null, .null, .int 0, .null, .null, .null, .int 0, .int 0, .int 0, .int 0, .int 0]) (nc1 := 125) (ns1 := 1150) hX dX4_init_27 rfl kX3 ⟨in1 38 rfl rfl, in1 39 rfl rfl, in1 2 rfl rfl⟩ (by decide) rfl rfl ?_
  intro a5 hn5 hl5
  refine gq_dup hX dX4_init_30 rfl rfl ?_
  refine gq_callN (mc := 12) (ms := 90) (nc1 := 113) (ns1 := 1060) hX dX4_init_31 vX4_9 (ci_X3_init hn5 hl5) rfl rfl (Nat.le_of_ble_eq_true rfl) ⟨(Nat.le_of_ble_eq_true rfl), (Nat.le_of_ble_eq_true rfl)⟩ rfl rfl ?_
  rintro r M5 ⟨rfl, s2, rfl, hS2⟩
  have hB5 := hB4.app hS2
  refine gq_putFB hB5 (j := 0) hX (Nat.le_of_ble_eq_true rfl) rfl rfl dX4_init_34 rfl fX4_19 rfl rfl rfl rfl rfl (Nat.le_of_ble_eq_true rfl) ?_
  intro M6 hB6
  refine gq_aload_n hX dX4_init_37 rfl rfl rfl ?_
  refine gq_iconst (v := nI 0) hX dX4_init_38 rfl (by decide) ?_
  refine gq_putB hB6 (j := 0) hX (Nat.le_of_ble_eq_true rfl) rfl rfl dX4_init_39 rfl fX4_22 rfl rfl rfl (Nat.le_of_ble_eq_true rfl) ?_
  intro M7 hB7
  refine gq_aload_n hX dX4_init_42 rfl rfl rfl ?_
  refine gq_newc (fs := [.null, .int 0, .int 0]) (nc1 := 112) (ns1 := 1057) hX dX4_init_43 rfl kX1 ⟨in1 144 rfl rfl, in1 145 rfl rfl, in1 4 rfl rfl⟩ (by decide) rfl rfl ?_
  intro a8 hn8 hl8
  refine gq_dup hX dX4_init_46 rfl rfl ?_
  refine gq_callI (mc := 105) (ms := 832) (nc1 := 7) (ns1 := 225) hX dX4_init_47 vX4_28 (ci_X1_init hn8 hl8) rfl rfl (Nat.le_of_ble_eq_true rfl) ⟨(Nat.le_of_ble_eq_true rfl), (Nat.le_of_ble_eq_true rfl)⟩ rfl rfl ?_
  rintro r M8 ⟨rfl, bh, rfl, hH⟩
  have hB8 := hB7.app hH
  refine gq_putFB hB8 (j := 0) hX (Nat.le_of_ble_eq_true rfl) rfl rfl dX4_init_50 rfl fX4_29 rfl rfl rfl rfl rfl (Nat.le_of_ble_eq_true rfl) ?_
  intro M9 hB9
  refine gq_aload_n hX dX4_init_53 rfl rfl rfl ?_
  refine gq_newc (fs := [.null, .null, .null, .int 0, .int 0]) (nc1 := 6) (ns1 := 220) hX dX4_init_54 rfl kX0 ⟨in1 164 rfl rfl, in1 165 rfl rfl, in1 5 rfl rfl⟩ (by decide) rfl rfl ?_
  intro a10 hn10 hl10
  refine gq_dup hX dX4_init_57 rfl rfl ?_
  refine gq_callN (mc := 4) (ms := 200) (nc1 := 2) (ns1 := 20) hX dX4_init_58 vX4_35 (ci_X0_init hn10 hl10) rfl rfl (Nat.le_of_ble_eq_true rfl) ⟨(Nat.le_of_ble_eq_true rfl), (Nat.le_of_ble_eq_true rfl)⟩ rfl rfl ?_
  rintro r M10 ⟨rfl, x1, x2, bc, rfl, hC, hsC⟩
  have hB10 := hB9.app hC
  refine gq_putFB hB10 (j := 0) hX (Nat.le_of_ble_eq_true rfl) rfl rfl dX4_init_61 rfl fX4_36 rfl rfl rfl rfl rfl (Nat.le_of_ble_eq_true rfl) ?_
  intro M11 hB11
  refine gq_aload_n hX dX4_init_64 rfl rfl rfl ?_
  refine gq_iconst (v := -1) hX dX4_init_65 rfl (by decide) ?_
  refine gq_putB hB11 (j := 0) hX (Nat.le_of_ble_eq_true rfl) rfl rfl dX4_init_66 rfl fX4_40 rfl rfl rfl (Nat.le_of_ble_eq_true rfl) ?_
  intro M12 hB12
  refine gq_aload_n hX dX4_init_69 rfl rfl rfl ?_
  refine gq_iconst (v := -1) hX dX4_init_70 rfl (by decide) ?_
  refine gq_putB hB12 (j := 0) hX (Nat.le_of_ble_eq_true rfl) rfl rfl dX4_init_71 rfl fX4_44 rfl rfl rfl (Nat.le_of_ble_eq_true rfl) ?_
  intro M13 hB13
  refine gq_aload_n hX dX4_init_74 rfl rfl rfl ?_
  refine gq_iconst (v := -1) hX dX4_init_75 rfl (by decide) ?_
  refine gq_putB hB13 (j := 0) hX (Nat.le_of_ble_eq_true rfl) rfl rfl dX4_init_76 rfl fX4_47 rfl rfl rfl (Nat.le_of_ble_eq_true rfl) ?_
  intro M14 hB14
  refine gq_aload_n hX dX4_init_79 rfl rfl rfl ?_
  refine gq_newc (fs := [.null, .int 0, .int 0, .int 0]) (nc1 := 1) (ns1 := 16) hX dX4_init_80 rfl kJ4 ⟨in1 221 rfl rfl, in1 171 rfl rfl, in1 7 rfl rfl⟩ (by decide) rfl rfl ?_
  intro a15 hn15 hl15
  refine gq_dup hX dX4_init_83 rfl rfl ?_
  refine gq_callI (mc := 1) (ms := 16) (nc1 := 0) (ns1 := 0) hX dX4_init_84 vX4_52 (ct_sbInit (hput_s _ _ _) hl15) rfl rfl (Nat.le_of_ble_eq_true rfl) ⟨(Nat.le_of_ble_eq_true rfl), (Nat.le_of_ble_eq_true rfl)⟩ rfl rfl ?_
  rintro r M15 ⟨rfl, v15, hv15, hs15, hf15⟩
  obtain ⟨y1, y2, hSB15⟩ := sb_bd hn15 hl15 hv15 hs15 hf15
  have hB15 := hB14.app hSB15
  refine gq_putFB hB15 (j := 0) hX (Nat.le_of_ble_eq_true rfl) rfl rfl dX4_init_87 rfl fX4_53 rfl rfl rfl rfl rfl (Nat.le_of_ble_eq_true rfl) ?_
  intro M16 hB16
  have hs8 := hsC.moved (M1 := M16) ((hB16.1 147 (by decide)).2.2.trans (hC.1 1 (by decide)).2.2.symm) ((hB16.1 148 (by decide)).2.2.trans (hC.1 2 (by decide)).2.2.symm)
  have hs9 := hs15.moved (M1 := M16) ((hB16.1 151 (by decide)).2.2.trans (hSB15.1 0 (by decide)).2.2.symm) ((hB16.1 152 (by decide)).2.2.trans (hSB15.1 1 (by decide)).2.2.symm)
  refine gq_vret hX hQ dX4_init_90 rfl ⟨rfl, s0, s1, s2, bh, bc, fun k => if k < 1 then a15 else v15, x1, x2, y1, y2, hB16.cg (fun k hk => ⟨rfl, ?_⟩), hs8, hs9⟩
  by_cases hk0 : k = 0
  · subst hk0
    rfl
  · simp only [faC, if_neg hk0]
    rfl

