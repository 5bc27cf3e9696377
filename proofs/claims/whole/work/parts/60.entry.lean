set_option maxRecDepth 100000 in
set_option maxHeartbeats 8000000 in
theorem lw_entry {E : Ev} {X : Cx0} {nm : String} {tb : List (Nat × Nat × Nat × Nat)} {Q : State → Prop} {bs L : Nat} {xs : Nat → Int32} (hX : Cx E X (mLw nm tb)) (hsc : Sc E X bs L xs) (hL : L ≤ 1536) (ke : ∀ (b : Nat → Nat) M i nc ns, Gq E X (mLw nm tb) Q 2992 [.ref bs, .ref (b 0), .ref (b 151), .ref (b 160), .ref (b 161), .int (nI i), hole, hole, hole] [] M nc ns) : Gq E X (mLw nm tb) Q 0 [.ref bs, hole, hole, hole, hole, hole, hole, hole, hole] [] (fun _ => none) (164 + 23 * 512) (2615 + 3266 * 512) := by
  refine gq_newc (fs := [.null, .null, .null, .int 0, .null, .null, .int 0, .int 0, .int 0, .null]) (nc1 := 163 + 23 * 512) (ns1 := 2605 + 3266 * 512) hX dL_law_0 rfl kX4 ⟨in1 30 rfl rfl, in1 31 rfl rfl, in1 1 rfl rfl⟩ (by decide) (by omega) (by omega) ?_
  intro a hn hl
  refine gq_dup hX dL_law_3 rfl rfl ?_
  refine gq_callI (mc := 152) (ms := 1369) (nc1 := 11 + 23 * 512) (ns1 := 1236 + 3266 * 512) hX dL_law_4 uL_164 (ci_X4_init hn hl) rfl rfl (Nat.le_of_ble_eq_true rfl) ⟨(Nat.le_of_ble_eq_true rfl), (Nat.le_of_ble_eq_true rfl)⟩ (by omega) (by omega) ?_
  rintro r M4 ⟨rfl, s0, s1, s2, bh, bc, sb, x1, x2, y1, y2, hB, h8, h9⟩
  refine gq_astore_n hX dL_law_7 rfl rfl (Nat.le_of_ble_eq_true rfl) rfl ?_
  refine gq_newc (fs := [.int 0, .null, .null, .null, .null, .null, .int 0, .int 0, .int 0, .null, .int 0, .null, .int 0, .int 0, .int 0, .int 0, .int 0, .null, .int 0, .int 0]) (nc1 := 10 + 23 * 512) (ns1 := 1216 + 3266 * 512) hX dL_law_8 rfl kX5 ⟨in7 35 rfl rfl, in7 36 rfl rfl, in1 10 rfl rfl⟩ (by decide) (by omega) (by omega) ?_
  intro a2 hn2 hl2
  refine gq_dup hX dL_law_11 rfl rfl ?_
  refine gq_callI (mc := 8) (ms := 1214) (nc1 := 2 + 23 * 512) (ns1 := 2 + 3266 * 512) hX dL_law_12 uL_167 (ci_X5_init hn2 hl2) rfl rfl (Nat.le_of_ble_eq_true rfl) ⟨(Nat.le_of_ble_eq_true rfl), (Nat.le_of_ble_eq_true rfl)⟩ (by omega) (by omega) ?_
  rintro r M5 ⟨rfl, bm, rfl, hBm⟩
  have hB5 := hB.app hBm
  refine gq_astore_n hX dL_law_15 rfl rfl (Nat.le_of_ble_eq_true rfl) rfl ?_
  refine gq_iconst (v := nI 1) hX dL_law_16 rfl (by decide) ?_
  refine gq_newaB hB5 (fty := .long) (t := 3) (N := 1) (a0 := (1, .inr (.inl (fun _ => 0)))) (nc1 := 1 + 23 * 512) (ns1 := 1 + 3266 * 512) hX dL_law_17 rfl rfl (in9 137 rfl rfl) rfl (fun _ _ h => h) (fun _ => rfl) (by decide) (by decide) (by decide) (by omega) (by omega) ?_
  intro o1 M6 hB6
  refine gq_astore_n hX dL_law_19 rfl rfl (Nat.le_of_ble_eq_true rfl) rfl ?_
  refine gq_iconst (v := nI 1) hX dL_law_20 rfl (by decide) ?_
  refine gq_newaB hB6 (fty := .double) (t := 4) (N := 1) (a0 := (1, .inr (.inr (.inr (.inl (fun _ => 0)))))) (nc1 := 0 + 23 * 512) (ns1 := 0 + 3266 * 512) hX dL_law_21 rfl rfl (in9 138 rfl rfl) rfl (fun _ _ h => h) (fun _ => rfl) (by decide) (by decide) (by decide) (by omega) (by omega) ?_
  intro o2 M7 hB7
  refine gq_astore hX dL_law_23 rfl (Nat.le_of_ble_eq_true rfl) rfl ?_
  refine gq_iconst (v := nI 0) hX dL_law_25 rfl (by decide) ?_
  refine gq_istore hX dL_law_26 rfl (Nat.le_of_ble_eq_true rfl) rfl ?_
  have k8 := h8.moved (M1 := M7) ((hB7.1 147 (by decide)).2.2.trans (hB.1 147 (by decide)).2.2.symm) ((hB7.1 148 (by decide)).2.2.trans (hB.1 148 (by decide)).2.2.symm)
  have k9 := h9.moved (M1 := M7) ((hB7.1 151 (by decide)).2.2.trans (hB.1 151 (by decide)).2.2.symm) ((hB7.1 152 (by decide)).2.2.trans (hB.1 152 (by decide)).2.2.symm)
  have hB8 : Bd E (fun _ => none) M7 164 (lwB a s0 s1 s2 bh bc sb bm o1 o2) (lwC E s0 s1 s2 bh bc sb bm x1 x2 y1 y2) := hB7
  obtain ⟨hb, hW⟩ := start_wd hB8 k8 k9
  exact lw_loop (b := lwb a s0 s1 s2 bh bc sb bm o1 o2) (c0 := 0) (d0 := 0) hX hsc hL hb (fun M i nc ns => ke _ M i nc ns) 512 0 0 K00 M7 (by omega) (by omega) (by decide) hW sim_start

