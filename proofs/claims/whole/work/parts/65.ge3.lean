set_option maxHeartbeats 4000000 in
set_option maxRecDepth 100000 in
theorem ge_start {p : Program} {s : State} {m : MethodId} {meth : Method} {c : Code} (l : Launch) (hflags : l.flags = flags0) {bs L : Nat} {xs : Nat → Int32} (C0 : lw_At p s m meth c bs L xs) : ∃ E2 : va_G × Nat × (Nat → ClassId) × (Nat → Nat) × (Nat → Nat), E2.2.1 = s.heap.size ∧ GE (l, E2) s := by
  obtain ⟨hx, hb, hr, hml, hown, hts, hX, hbl, hlocks, hgv⟩ := id C0
  have hs := flat_of_before _ hgv
  have hst : l.stackTraces = false := by
    unfold Launch.stackTraces
    rw [hflags]
    decide
  have hcl : ∀ k : Nat, ∃ q : ClassId × (Nat → Nat), ∀ r : vw_C, vwCl[k]? = some r → u_Kn s r.1 r.2.1 r.2.2 q.1 q.2 := by
    intro k
    match k with
    | 0 =>
      obtain ⟨c1, i1, h⟩ := u_known (C := RJ0) (T := TJ0) (N := 4) (n := 4) hts (by decide +kernel) (hts _ (lw_in (List.mem_append_right _ (List.mem_append_right _ (List.mem_append_left _ (List.mem_of_getElem? (i := 70) rfl))))))
      exact ⟨(c1, i1), fun r hr => by cases hr; exact h⟩
    | 1 =>
      obtain ⟨c1, i1, h⟩ := u_known (C := RJ4) (T := TJ4) (N := 4) (n := 4) hts (by decide +kernel) (hts _ (lw_in (List.mem_append_left _ (List.mem_of_getElem? (i := 171) rfl))))
      exact ⟨(c1, i1), fun r hr => by cases hr; exact h⟩
    | 2 =>
      obtain ⟨c1, i1, h⟩ := u_known (C := RJx00060) (T := TJx00060) (N := 6) (n := 6) hts (by decide +kernel) (hts _ (lw_in (List.mem_append_right _ (List.mem_append_right _ (List.mem_append_left _ (List.mem_of_getElem? (i := 55) rfl))))))
      exact ⟨(c1, i1), fun r hr => by cases hr; exact h⟩
    | 3 =>
      obtain ⟨c1, i1, h⟩ := u_known (C := RJx7c733) (T := TJx7c733) (N := 6) (n := 6) hts (by decide +kernel) (hts _ (lw_in (List.mem_append_right _ (List.mem_append_right _ (List.mem_append_right _ (List.mem_append_right _ (List.mem_append_left _ (List.mem_of_getElem? (i := 213) rfl))))))))
      exact ⟨(c1, i1), fun r hr => by cases hr; exact h⟩
    | 4 =>
      obtain ⟨c1, i1, h⟩ := u_known (C := RX0) (T := TX0) (N := 5) (n := 5) hts (by decide +kernel) (hts _ (lw_in (List.mem_append_left _ (List.mem_of_getElem? (i := 165) rfl))))
      exact ⟨(c1, i1), fun r hr => by cases hr; exact h⟩
    | 5 =>
      obtain ⟨c1, i1, h⟩ := u_known (C := RX1) (T := TX1) (N := 3) (n := 3) hts (by decide +kernel) (hts _ (lw_in (List.mem_append_left _ (List.mem_of_getElem? (i := 145) rfl))))
      exact ⟨(c1, i1), fun r hr => by cases hr; exact h⟩
    | 6 =>
      obtain ⟨c1, i1, h⟩ := u_known (C := RX2) (T := TX2) (N := 8) (n := 8) hts (by decide +kernel) (hts _ (lw_in (List.mem_append_left _ (List.mem_of_getElem? (i := 45) rfl))))
      exact ⟨(c1, i1), fun r hr => by cases hr; exact h⟩
    | 7 =>
      obtain ⟨c1, i1, h⟩ := u_known (C := RX3) (T := TX3) (N := 13) (n := 13) hts (by decide +kernel) (hts _ (lw_in (List.mem_append_left _ (List.mem_of_getElem? (i := 39) rfl))))
      exact ⟨(c1, i1), fun r hr => by cases hr; exact h⟩
    | 8 =>
      obtain ⟨c1, i1, h⟩ := u_known (C := RX4) (T := TX4) (N := 10) (n := 10) hts (by decide +kernel) (hts _ (lw_in (List.mem_append_left _ (List.mem_of_getElem? (i := 31) rfl))))
      exact ⟨(c1, i1), fun r hr => by cases hr; exact h⟩
    | 9 =>
      obtain ⟨c1, i1, h⟩ := u_known (C := RX5) (T := TX5) (N := 20) (n := 20) hts (by decide +kernel) (hts _ (lw_in (List.mem_append_right _ (List.mem_append_right _ (List.mem_append_right _ (List.mem_append_right _ (List.mem_append_right _ (List.mem_append_right _ (List.mem_append_left _ (List.mem_of_getElem? (i := 36) rfl))))))))))
      exact ⟨(c1, i1), fun r hr => by cases hr; exact h⟩
    | k + 10 => exact ⟨(0, fun _ => 0), fun r hr => by cases hr⟩
  obtain ⟨D, hD⟩ := Classical.axiomOfChoice hcl
  have har : ∀ k : Nat, ∃ cA : ClassId, ∀ r : FieldType, [FieldType.int, .char, .boolean, .long, .double, .byte, .object "KiteTailRental$State"][k]? = some r → ArrOfT s cA r ∧ va_RA s cA r := by
    intro k
    match k with
    | 0 =>
      obtain ⟨cA, kA, comp, h1, h2, h3⟩ := Cond.arrayClass_spec (args := #[Value.ref bs]) (first := s) (o := none) (s := s) (idx := []) (type := .int) (hts _ (lw_in (List.mem_append_left _ (List.mem_of_getElem? (i := 88) rfl))))
      exact ⟨cA, fun r hr => by cases hr; exact ⟨fun n z => ⟨fun k h => (by cases h), kA, h2, comp, h3⟩, h1⟩⟩
    | 1 =>
      obtain ⟨cA, kA, comp, h1, h2, h3⟩ := Cond.arrayClass_spec (args := #[Value.ref bs]) (first := s) (o := none) (s := s) (idx := []) (type := .char) (hts _ (lw_in (List.mem_append_left _ (List.mem_of_getElem? (i := 90) rfl))))
      exact ⟨cA, fun r hr => by cases hr; exact ⟨fun n z => ⟨fun k h => (by cases h), kA, h2, comp, h3⟩, h1⟩⟩
    | 2 =>
      obtain ⟨cA, kA, comp, h1, h2, h3⟩ := Cond.arrayClass_spec (args := #[Value.ref bs]) (first := s) (o := none) (s := s) (idx := []) (type := .boolean) (hts _ (lw_in (List.mem_append_left _ (List.mem_of_getElem? (i := 89) rfl))))
      exact ⟨cA, fun r hr => by cases hr; exact ⟨fun n z => ⟨fun k h => (by cases h), kA, h2, comp, h3⟩, h1⟩⟩
    | 3 =>
      obtain ⟨cA, kA, comp, h1, h2, h3⟩ := Cond.arrayClass_spec (args := #[Value.ref bs]) (first := s) (o := none) (s := s) (idx := []) (type := .long) (hts _ (lw_in (List.mem_append_right _ (List.mem_append_right _ (List.mem_append_right _ (List.mem_append_right _ (List.mem_append_right _ (List.mem_append_right _ (List.mem_append_right _ (List.mem_append_right _ (List.mem_of_getElem? (i := 137) rfl)))))))))))
      exact ⟨cA, fun r hr => by cases hr; exact ⟨fun n z => ⟨fun k h => (by cases h), kA, h2, comp, h3⟩, h1⟩⟩
    | 4 =>
      obtain ⟨cA, kA, comp, h1, h2, h3⟩ := Cond.arrayClass_spec (args := #[Value.ref bs]) (first := s) (o := none) (s := s) (idx := []) (type := .double) (hts _ (lw_in (List.mem_append_right _ (List.mem_append_right _ (List.mem_append_right _ (List.mem_append_right _ (List.mem_append_right _ (List.mem_append_right _ (List.mem_append_right _ (List.mem_append_right _ (List.mem_of_getElem? (i := 138) rfl)))))))))))
      exact ⟨cA, fun r hr => by cases hr; exact ⟨fun n z => ⟨fun k h => (by cases h), kA, h2, comp, h3⟩, h1⟩⟩
    | 5 =>
      obtain ⟨cA, kA, comp, h1, h2, h3⟩ := Cond.arrayClass_spec (args := #[Value.ref bs]) (first := s) (o := none) (s := s) (idx := []) (type := .byte) (hts _ (lw_in (List.mem_append_left _ (List.mem_of_getElem? (i := 202) rfl))))
      exact ⟨cA, fun r hr => by cases hr; exact ⟨fun n z => ⟨fun k h => (by cases h), kA, h2, comp, h3⟩, h1⟩⟩
    | 6 =>
      obtain ⟨comp, cA, kA, f1, -, f2, f3, f4⟩ := Cond.arrayOver_spec (args := #[Value.ref bs]) (first := s) (o := none) (s := s) (idx := []) (n := "KiteTailRental$State") (hts _ (lw_in (List.mem_append_left _ (List.mem_of_getElem? (i := 151) rfl))))
      exact ⟨cA, fun r hr => by cases hr; exact ⟨fun n z => ⟨fun k h => (by cases h), kA, f2, comp, f3⟩, kA, comp, f2, f3, f1, f4⟩⟩
    | k + 7 => exact ⟨0, fun r hr => by cases hr⟩
  obtain ⟨tA, htA⟩ := Classical.axiomOfChoice har
  have hA0 : ∀ a : Nat, a < s.heap.size → ¬ (fun q : Nat => s.heap.size ≤ q) a := fun a h => Nat.not_le.mpr h
  obtain ⟨adK, adV, hvs, hev⟩ := fm_start (A := fun q : Nat => s.heap.size ≤ q) hs hA0
  obtain ⟨E2, hE2⟩ : ∃ E2 : va_G × Nat × (Nat → ClassId) × (Nat → Nat) × (Nat → Nat), E2 = ((fun k => (D k).1, fun k => (D k).2), s.heap.size, tA, adK, adV) := ⟨_, rfl⟩
  have hA : ∀ a : Nat, a < s.heap.size → ¬ AE (l, E2) a := by
    rw [hE2]
    exact fun a h => Nat.not_le.mpr h
  refine ⟨E2, by rw [hE2], hst, by rw [hE2]; exact Nat.le_refl _, ⟨fun k r hr => ?_, fun k q hq => ?_⟩, ⟨?_, ?_, ?_, ?_, ?_, ?_, ?_⟩, fun q hq => ?_, fun i q hq => ?_, fun w hw => ?_, fun q hq => ?_, va_AO.of (hts _ (lw_in (List.mem_append_left _ (List.mem_of_getElem? (i := 151) rfl))))⟩
  · rw [hE2]
    exact hD k r hr
  · rw [hE2] at hq
    match k, hq with
    | 0, hq =>
      cases hq
      exact htA 0 _ rfl
    | 1, hq =>
      cases hq
      exact htA 1 _ rfl
    | 2, hq =>
      cases hq
      exact htA 2 _ rfl
    | 3, hq =>
      cases hq
      exact htA 3 _ rfl
    | 4, hq =>
      cases hq
      exact htA 4 _ rfl
    | 5, hq =>
      cases hq
      exact htA 5 _ rfl
    | 6, hq =>
      cases hq
      exact htA 6 _ rfl
  · exact vx_Zqof (hts _ (lw_in (List.mem_append_right _ (List.mem_append_left _ (List.mem_of_getElem? (i := 126) rfl))))) (hts _ (lw_in (List.mem_append_left _ (List.mem_of_getElem? (i := 11) rfl)))) (hs _ (cd_sub [true, false, false, false, false, false, false, false, false, true, false] _ _ (List.mem_cons_self))) hA
  · exact vx_Zqof (hts _ (lw_in (List.mem_append_right _ (List.mem_append_left _ (List.mem_of_getElem? (i := 128) rfl))))) (hts _ (lw_in (List.mem_append_left _ (List.mem_of_getElem? (i := 11) rfl)))) (hs _ (cd_sub [true, false, false, false, false, false, false, false, false, true, true, false] _ _ (List.mem_cons_self))) hA
  · exact va_Zof (hts _ (lw_in (List.mem_append_left _ (List.mem_of_getElem? (i := 180) rfl)))) (hts _ (lw_in (List.mem_append_left _ (List.mem_of_getElem? (i := 8) rfl)))) (va_eqt (hs _ (cd_sub [true, false, false, false, false, false, false, false, false, false, true, true] _ _ (List.mem_cons_self)))) hA
  · exact (by
      obtain ⟨t, ht, hT⟩ := va_Tof (tm := Term.static "java/lang/Integer" "DigitTens" "[B") (ty := .byte) (N := 100) (f := fun j => .int (nI (48 + j / 10))) (A := AE (l, E2)) (by decide) (hs _ (cd_sub [true, false, false, false, true, false, false, true, false, false, true, false] _ _ (List.mem_cons_self))) (va_eqt (hs _ (cd_sub [true, false, false, false, true, false, false, true, false, false, true, true] _ _ (List.mem_cons_self)))) (fun j hj => va_eqt (hs _ (fl_tens hj))) hA
      exact ⟨t, va_Zref (hts _ (lw_in (List.mem_append_right _ (List.mem_append_right _ (List.mem_append_right _ (List.mem_append_right _ (List.mem_append_right _ (List.mem_append_left _ (List.mem_of_getElem? (i := 35) rfl))))))))) (hts _ (lw_in (List.mem_append_left _ (List.mem_of_getElem? (i := 28) rfl)))) ht hA, hT⟩)
  · exact (by
      obtain ⟨t, ht, hT⟩ := va_Tof (tm := Term.static "java/lang/Integer" "DigitOnes" "[B") (ty := .byte) (N := 100) (f := fun j => .int (nI (48 + j % 10))) (A := AE (l, E2)) (by decide) (hs _ (cd_sub [true, false, false, false, false, false, false, false, true, true, true, false] _ _ (List.mem_cons_self))) (va_eqt (hs _ (cd_sub [true, false, false, false, false, false, false, false, true, true, true, true] _ _ (List.mem_cons_self)))) (fun j hj => va_eqt (hs _ (fl_ones hj))) hA
      exact ⟨t, va_Zref (hts _ (lw_in (List.mem_append_right _ (List.mem_append_right _ (List.mem_append_right _ (List.mem_append_right _ (List.mem_append_right _ (List.mem_append_left _ (List.mem_of_getElem? (i := 33) rfl))))))))) (hts _ (lw_in (List.mem_append_left _ (List.mem_of_getElem? (i := 28) rfl)))) ht hA, hT⟩)
  · exact va_Zqof (hts _ (lw_in (List.mem_append_right _ (List.mem_append_right _ (List.mem_append_right _ (List.mem_append_right _ (List.mem_append_left _ (List.mem_of_getElem? (i := 91) rfl)))))))) (hts _ (lw_in (List.mem_append_left _ (List.mem_of_getElem? (i := 25) rfl)))) (hs _ (cd_sub [true, false, false, false, false, false, false, false, false, true, true, true] _ _ (List.mem_cons_self))) hA
  · rw [hE2]
    exact hvs
  · obtain ⟨g1, g2⟩ := fs_1 q hq
    obtain ⟨a, c1, cA, kA, q1, -⟩ := Cond.exactly_spec (args := #[Value.ref bs]) (first := s) (o := none) (s := s) (idx := []) (hs _ g1)
    exact ⟨a, vk_R.of (hts _ g2) q1⟩
  · have hi : i < 13 := (List.getElem?_eq_some_iff.mp hq).1
    have hg : frmC.getD i (0, "") = q := by rw [List.getD_eq_getElem?_getD, hq]; rfl
    have h1 := hts _ (fm_r i hi)
    have h2 := hev i hi
    unfold fmT at h2
    rw [hg] at h1 h2
    rw [hE2]
    exact vk_R.of h1 h2
  · obtain ⟨g1, g2⟩ := List.mem_filter.mp hw
    refine va_Nw.of ?_ (hts w g1)
    cases w <;> first | rfl | exact absurd (show false = true from g2) Bool.false_ne_true
  · exact va_Nc.of (hs _ (fs_nc q hq))
