def fmT (i : Nat) : Term := .string "KiteTailRental$Commands" (frmC.getD i (0, "")).1
theorem fm_a : ∀ i, i < 13 → (Cond.exactly (fmT i) "java/lang/String") ∈ (flatC (Jvm.Cond.and given_1 narrow_1)) := by
  intro i hi
  match i, hi with
  | 0, _ => exact cd_sub [true, true, false, true, false, true, false, true, true, false, true, false] _ _ (List.mem_cons_self)
  | 1, _ => exact cd_sub [true, true, false, true, false, true, true, false, true, true, false] _ _ (List.mem_cons_self)
  | 2, _ => exact cd_sub [true, true, false, true, false, true, true, true, true, false, true, false] _ _ (List.mem_cons_self)
  | 3, _ => exact cd_sub [true, true, false, true, true, false, false, false, false, true, true, true] _ _ (List.mem_cons_self)
  | 4, _ => exact cd_sub [true, true, false, true, true, false, false, true, false, true, true, true] _ _ (List.mem_cons_self)
  | 5, _ => exact cd_sub [true, true, false, true, true, false, true, false, false, true, false] _ _ (List.mem_cons_self)
  | 6, _ => exact cd_sub [true, true, false, true, true, false, true, true, false, true, true, false] _ _ (List.mem_cons_self)
  | 7, _ => exact cd_sub [true, true, false, true, true, true, false, false, false, true, true, false] _ _ (List.mem_cons_self)
  | 8, _ => exact cd_sub [true, true, false, true, true, true, false, true, true, false, false] _ _ (List.mem_cons_self)
  | 9, _ => exact cd_sub [true, true, false, true, true, true, true, false, true, false, false] _ _ (List.mem_cons_self)
  | 10, _ => exact cd_sub [true, true, false, true, true, true, true, true, true, false, true, true] _ _ (List.mem_cons_self)
  | 11, _ => exact cd_sub [true, true, true, false, false, false, false, false, false, false, true, true, true] _ _ (List.mem_cons_self)
  | 12, _ => exact cd_sub [true, true, true, false, false, false, false, false, true, false, true, false] _ _ (List.mem_cons_self)
  | i + 13, h => exact absurd h (by omega)
theorem fm_b : ∀ i, i < 13 → (Cond.eq (.field (fmT i) "java/lang/String" "coder" "B") (.int 0)) ∈ (flatC (Jvm.Cond.and given_1 narrow_1)) := by
  intro i hi
  match i, hi with
  | 0, _ => exact cd_sub [true, true, false, true, false, true, false, true, true, false, true, true] _ _ (List.mem_cons_self)
  | 1, _ => exact cd_sub [true, true, false, true, false, true, true, false, true, true, true, false] _ _ (List.mem_cons_self)
  | 2, _ => exact cd_sub [true, true, false, true, false, true, true, true, true, false, true, true] _ _ (List.mem_cons_self)
  | 3, _ => exact cd_sub [true, true, false, true, true, false, false, false, true, false, false] _ _ (List.mem_cons_self)
  | 4, _ => exact cd_sub [true, true, false, true, true, false, false, true, true, false, false] _ _ (List.mem_cons_self)
  | 5, _ => exact cd_sub [true, true, false, true, true, false, true, false, false, true, true, false] _ _ (List.mem_cons_self)
  | 6, _ => exact cd_sub [true, true, false, true, true, false, true, true, false, true, true, true] _ _ (List.mem_cons_self)
  | 7, _ => exact cd_sub [true, true, false, true, true, true, false, false, false, true, true, true] _ _ (List.mem_cons_self)
  | 8, _ => exact cd_sub [true, true, false, true, true, true, false, true, true, false, true, false] _ _ (List.mem_cons_self)
  | 9, _ => exact cd_sub [true, true, false, true, true, true, true, false, true, false, true, false] _ _ (List.mem_cons_self)
  | 10, _ => exact cd_sub [true, true, false, true, true, true, true, true, true, true, false, false] _ _ (List.mem_cons_self)
  | 11, _ => exact cd_sub [true, true, true, false, false, false, false, false, false, true, false, false] _ _ (List.mem_cons_self)
  | 12, _ => exact cd_sub [true, true, true, false, false, false, false, false, true, false, true, true, false] _ _ (List.mem_cons_self)
  | i + 13, h => exact absurd h (by omega)
theorem fm_c : ∀ i, i < 13 → (Cond.arrayOf (.field (fmT i) "java/lang/String" "value" "[B") .byte) ∈ (flatC (Jvm.Cond.and given_1 narrow_1)) := by
  intro i hi
  match i, hi with
  | 0, _ => exact cd_sub [true, true, false, true, false, true, false, true, true, true, false, false] _ _ (List.mem_cons_self)
  | 1, _ => exact cd_sub [true, true, false, true, false, true, true, false, true, true, true, true] _ _ (List.mem_cons_self)
  | 2, _ => exact cd_sub [true, true, false, true, false, true, true, true, true, true, false, false] _ _ (List.mem_cons_self)
  | 3, _ => exact cd_sub [true, true, false, true, true, false, false, false, true, false, true, false] _ _ (List.mem_cons_self)
  | 4, _ => exact cd_sub [true, true, false, true, true, false, false, true, true, false, true, false] _ _ (List.mem_cons_self)
  | 5, _ => exact cd_sub [true, true, false, true, true, false, true, false, false, true, true, true] _ _ (List.mem_cons_self)
  | 6, _ => exact cd_sub [true, true, false, true, true, false, true, true, true, false, false] _ _ (List.mem_cons_self)
  | 7, _ => exact cd_sub [true, true, false, true, true, true, false, false, true, false, false] _ _ (List.mem_cons_self)
  | 8, _ => exact cd_sub [true, true, false, true, true, true, false, true, true, false, true, true] _ _ (List.mem_cons_self)
  | 9, _ => exact cd_sub [true, true, false, true, true, true, true, false, true, false, true, true] _ _ (List.mem_cons_self)
  | 10, _ => exact cd_sub [true, true, false, true, true, true, true, true, true, true, false, true] _ _ (List.mem_cons_self)
  | 11, _ => exact cd_sub [true, true, true, false, false, false, false, false, false, true, false, true, false] _ _ (List.mem_cons_self)
  | 12, _ => exact cd_sub [true, true, true, false, false, false, false, false, true, false, true, true, true] _ _ (List.mem_cons_self)
  | i + 13, h => exact absurd h (by omega)
theorem fm_d : ∀ i, i < 13 → (Cond.eq (.length (.field (fmT i) "java/lang/String" "value" "[B")) (.int (Int32.ofNat (frmL.getD i 0)))) ∈ (flatC (Jvm.Cond.and given_1 narrow_1)) := by
  intro i hi
  match i, hi with
  | 0, _ => exact cd_sub [true, true, false, true, false, true, false, true, true, true, false, true] _ _ (List.mem_cons_self)
  | 1, _ => exact cd_sub [true, true, false, true, false, true, true, true, false, false, false] _ _ (List.mem_cons_self)
  | 2, _ => exact cd_sub [true, true, false, true, false, true, true, true, true, true, false, true] _ _ (List.mem_cons_self)
  | 3, _ => exact cd_sub [true, true, false, true, true, false, false, false, true, false, true, true] _ _ (List.mem_cons_self)
  | 4, _ => exact cd_sub [true, true, false, true, true, false, false, true, true, false, true, true] _ _ (List.mem_cons_self)
  | 5, _ => exact cd_sub [true, true, false, true, true, false, true, false, true, false, false] _ _ (List.mem_cons_self)
  | 6, _ => exact cd_sub [true, true, false, true, true, false, true, true, true, false, true, false] _ _ (List.mem_cons_self)
  | 7, _ => exact cd_sub [true, true, false, true, true, true, false, false, true, false, true, false] _ _ (List.mem_cons_self)
  | 8, _ => exact cd_sub [true, true, false, true, true, true, false, true, true, true, false, false] _ _ (List.mem_cons_self)
  | 9, _ => exact cd_sub [true, true, false, true, true, true, true, false, true, true, false] _ _ (List.mem_cons_self)
  | 10, _ => exact cd_sub [true, true, false, true, true, true, true, true, true, true, true, false] _ _ (List.mem_cons_self)
  | 11, _ => exact cd_sub [true, true, true, false, false, false, false, false, false, true, false, true, true] _ _ (List.mem_cons_self)
  | 12, _ => exact cd_sub [true, true, true, false, false, false, false, false, true, true, false, false] _ _ (List.mem_cons_self)
  | i + 13, h => exact absurd h (by omega)
theorem fm_e0 : ∀ j, j < 11 → (Cond.eq (.elem (.field (fmT 0) "java/lang/String" "value" "[B") (.int (Int32.ofNat j))) (.int ((frmB.getD 0 []).getD j 0))) ∈ (flatC (Jvm.Cond.and given_1 narrow_1)) := by
  intro j hj
  match j, hj with
  | 0, _ => exact cd_sub [true, true, false, true, false, true, false, true, true, true, true, false] _ _ (List.mem_cons_self)
  | 1, _ => exact cd_sub [true, true, false, true, false, true, false, true, true, true, true, true] _ _ (List.mem_cons_self)
  | 2, _ => exact cd_sub [true, true, false, true, false, true, true, false, false, false, false] _ _ (List.mem_cons_self)
  | 3, _ => exact cd_sub [true, true, false, true, false, true, true, false, false, false, true, false] _ _ (List.mem_cons_self)
  | 4, _ => exact cd_sub [true, true, false, true, false, true, true, false, false, false, true, true] _ _ (List.mem_cons_self)
  | 5, _ => exact cd_sub [true, true, false, true, false, true, true, false, false, true, false] _ _ (List.mem_cons_self)
  | 6, _ => exact cd_sub [true, true, false, true, false, true, true, false, false, true, true, false] _ _ (List.mem_cons_self)
  | 7, _ => exact cd_sub [true, true, false, true, false, true, true, false, false, true, true, true] _ _ (List.mem_cons_self)
  | 8, _ => exact cd_sub [true, true, false, true, false, true, true, false, true, false, false] _ _ (List.mem_cons_self)
  | 9, _ => exact cd_sub [true, true, false, true, false, true, true, false, true, false, true, false] _ _ (List.mem_cons_self)
  | 10, _ => exact cd_sub [true, true, false, true, false, true, true, false, true, false, true, true] _ _ (List.mem_cons_self)
  | j + 11, h => exact absurd h (by omega)
theorem fm_e1 : ∀ j, j < 6 → (Cond.eq (.elem (.field (fmT 1) "java/lang/String" "value" "[B") (.int (Int32.ofNat j))) (.int ((frmB.getD 1 []).getD j 0))) ∈ (flatC (Jvm.Cond.and given_1 narrow_1)) := by
  intro j hj
  match j, hj with
  | 0, _ => exact cd_sub [true, true, false, true, false, true, true, true, false, false, true, false] _ _ (List.mem_cons_self)
  | 1, _ => exact cd_sub [true, true, false, true, false, true, true, true, false, false, true, true] _ _ (List.mem_cons_self)
  | 2, _ => exact cd_sub [true, true, false, true, false, true, true, true, false, true, false] _ _ (List.mem_cons_self)
  | 3, _ => exact cd_sub [true, true, false, true, false, true, true, true, false, true, true, false] _ _ (List.mem_cons_self)
  | 4, _ => exact cd_sub [true, true, false, true, false, true, true, true, false, true, true, true] _ _ (List.mem_cons_self)
  | 5, _ => exact cd_sub [true, true, false, true, false, true, true, true, true, false, false] _ _ (List.mem_cons_self)
  | j + 6, h => exact absurd h (by omega)
theorem fm_e2 : ∀ j, j < 7 → (Cond.eq (.elem (.field (fmT 2) "java/lang/String" "value" "[B") (.int (Int32.ofNat j))) (.int ((frmB.getD 2 []).getD j 0))) ∈ (flatC (Jvm.Cond.and given_1 narrow_1)) := by
  intro j hj
  match j, hj with
  | 0, _ => exact cd_sub [true, true, false, true, false, true, true, true, true, true, true, false] _ _ (List.mem_cons_self)
  | 1, _ => exact cd_sub [true, true, false, true, false, true, true, true, true, true, true, true] _ _ (List.mem_cons_self)
  | 2, _ => exact cd_sub [true, true, false, true, true, false, false, false, false, false, false] _ _ (List.mem_cons_self)
  | 3, _ => exact cd_sub [true, true, false, true, true, false, false, false, false, false, true, false] _ _ (List.mem_cons_self)
  | 4, _ => exact cd_sub [true, true, false, true, true, false, false, false, false, false, true, true] _ _ (List.mem_cons_self)
  | 5, _ => exact cd_sub [true, true, false, true, true, false, false, false, false, true, false] _ _ (List.mem_cons_self)
  | 6, _ => exact cd_sub [true, true, false, true, true, false, false, false, false, true, true, false] _ _ (List.mem_cons_self)
  | j + 7, h => exact absurd h (by omega)
theorem fm_e3 : ∀ j, j < 8 → (Cond.eq (.elem (.field (fmT 3) "java/lang/String" "value" "[B") (.int (Int32.ofNat j))) (.int ((frmB.getD 3 []).getD j 0))) ∈ (flatC (Jvm.Cond.and given_1 narrow_1)) := by
  intro j hj
  match j, hj with
  | 0, _ => exact cd_sub [true, true, false, true, true, false, false, false, true, true, false] _ _ (List.mem_cons_self)
  | 1, _ => exact cd_sub [true, true, false, true, true, false, false, false, true, true, true, false] _ _ (List.mem_cons_self)
  | 2, _ => exact cd_sub [true, true, false, true, true, false, false, false, true, true, true, true] _ _ (List.mem_cons_self)
  | 3, _ => exact cd_sub [true, true, false, true, true, false, false, true, false, false, false] _ _ (List.mem_cons_self)
  | 4, _ => exact cd_sub [true, true, false, true, true, false, false, true, false, false, true, false] _ _ (List.mem_cons_self)
  | 5, _ => exact cd_sub [true, true, false, true, true, false, false, true, false, false, true, true] _ _ (List.mem_cons_self)
  | 6, _ => exact cd_sub [true, true, false, true, true, false, false, true, false, true, false] _ _ (List.mem_cons_self)
  | 7, _ => exact cd_sub [true, true, false, true, true, false, false, true, false, true, true, false] _ _ (List.mem_cons_self)
  | j + 8, h => exact absurd h (by omega)
theorem fm_e4 : ∀ j, j < 7 → (Cond.eq (.elem (.field (fmT 4) "java/lang/String" "value" "[B") (.int (Int32.ofNat j))) (.int ((frmB.getD 4 []).getD j 0))) ∈ (flatC (Jvm.Cond.and given_1 narrow_1)) := by
  intro j hj
  match j, hj with
  | 0, _ => exact cd_sub [true, true, false, true, true, false, false, true, true, true, false, false] _ _ (List.mem_cons_self)
  | 1, _ => exact cd_sub [true, true, false, true, true, false, false, true, true, true, false, true] _ _ (List.mem_cons_self)
  | 2, _ => exact cd_sub [true, true, false, true, true, false, false, true, true, true, true, false] _ _ (List.mem_cons_self)
  | 3, _ => exact cd_sub [true, true, false, true, true, false, false, true, true, true, true, true] _ _ (List.mem_cons_self)
  | 4, _ => exact cd_sub [true, true, false, true, true, false, true, false, false, false, false] _ _ (List.mem_cons_self)
  | 5, _ => exact cd_sub [true, true, false, true, true, false, true, false, false, false, true, false] _ _ (List.mem_cons_self)
  | 6, _ => exact cd_sub [true, true, false, true, true, false, true, false, false, false, true, true] _ _ (List.mem_cons_self)
  | j + 7, h => exact absurd h (by omega)
theorem fm_e5 : ∀ j, j < 9 → (Cond.eq (.elem (.field (fmT 5) "java/lang/String" "value" "[B") (.int (Int32.ofNat j))) (.int ((frmB.getD 5 []).getD j 0))) ∈ (flatC (Jvm.Cond.and given_1 narrow_1)) := by
  intro j hj
  match j, hj with
  | 0, _ => exact cd_sub [true, true, false, true, true, false, true, false, true, false, true, false] _ _ (List.mem_cons_self)
  | 1, _ => exact cd_sub [true, true, false, true, true, false, true, false, true, false, true, true] _ _ (List.mem_cons_self)
  | 2, _ => exact cd_sub [true, true, false, true, true, false, true, false, true, true, false] _ _ (List.mem_cons_self)
  | 3, _ => exact cd_sub [true, true, false, true, true, false, true, false, true, true, true, false] _ _ (List.mem_cons_self)
  | 4, _ => exact cd_sub [true, true, false, true, true, false, true, false, true, true, true, true] _ _ (List.mem_cons_self)
  | 5, _ => exact cd_sub [true, true, false, true, true, false, true, true, false, false, false] _ _ (List.mem_cons_self)
  | 6, _ => exact cd_sub [true, true, false, true, true, false, true, true, false, false, true, false] _ _ (List.mem_cons_self)
  | 7, _ => exact cd_sub [true, true, false, true, true, false, true, true, false, false, true, true] _ _ (List.mem_cons_self)
  | 8, _ => exact cd_sub [true, true, false, true, true, false, true, true, false, true, false] _ _ (List.mem_cons_self)
  | j + 9, h => exact absurd h (by omega)
theorem fm_e6 : ∀ j, j < 9 → (Cond.eq (.elem (.field (fmT 6) "java/lang/String" "value" "[B") (.int (Int32.ofNat j))) (.int ((frmB.getD 6 []).getD j 0))) ∈ (flatC (Jvm.Cond.and given_1 narrow_1)) := by
  intro j hj
  match j, hj with
  | 0, _ => exact cd_sub [true, true, false, true, true, false, true, true, true, false, true, true] _ _ (List.mem_cons_self)
  | 1, _ => exact cd_sub [true, true, false, true, true, false, true, true, true, true, false, false] _ _ (List.mem_cons_self)
  | 2, _ => exact cd_sub [true, true, false, true, true, false, true, true, true, true, false, true] _ _ (List.mem_cons_self)
  | 3, _ => exact cd_sub [true, true, false, true, true, false, true, true, true, true, true, false] _ _ (List.mem_cons_self)
  | 4, _ => exact cd_sub [true, true, false, true, true, false, true, true, true, true, true, true] _ _ (List.mem_cons_self)
  | 5, _ => exact cd_sub [true, true, false, true, true, true, false, false, false, false, false] _ _ (List.mem_cons_self)
  | 6, _ => exact cd_sub [true, true, false, true, true, true, false, false, false, false, true, false] _ _ (List.mem_cons_self)
  | 7, _ => exact cd_sub [true, true, false, true, true, true, false, false, false, false, true, true] _ _ (List.mem_cons_self)
  | 8, _ => exact cd_sub [true, true, false, true, true, true, false, false, false, true, false] _ _ (List.mem_cons_self)
  | j + 9, h => exact absurd h (by omega)
theorem fm_e7 : ∀ j, j < 10 → (Cond.eq (.elem (.field (fmT 7) "java/lang/String" "value" "[B") (.int (Int32.ofNat j))) (.int ((frmB.getD 7 []).getD j 0))) ∈ (flatC (Jvm.Cond.and given_1 narrow_1)) := by
  intro j hj
  match j, hj with
  | 0, _ => exact cd_sub [true, true, false, true, true, true, false, false, true, false, true, true] _ _ (List.mem_cons_self)
  | 1, _ => exact cd_sub [true, true, false, true, true, true, false, false, true, true, false] _ _ (List.mem_cons_self)
  | 2, _ => exact cd_sub [true, true, false, true, true, true, false, false, true, true, true, false] _ _ (List.mem_cons_self)
  | 3, _ => exact cd_sub [true, true, false, true, true, true, false, false, true, true, true, true] _ _ (List.mem_cons_self)
  | 4, _ => exact cd_sub [true, true, false, true, true, true, false, true, false, false, false] _ _ (List.mem_cons_self)
  | 5, _ => exact cd_sub [true, true, false, true, true, true, false, true, false, false, true, false] _ _ (List.mem_cons_self)
  | 6, _ => exact cd_sub [true, true, false, true, true, true, false, true, false, false, true, true] _ _ (List.mem_cons_self)
  | 7, _ => exact cd_sub [true, true, false, true, true, true, false, true, false, true, false] _ _ (List.mem_cons_self)
  | 8, _ => exact cd_sub [true, true, false, true, true, true, false, true, false, true, true, false] _ _ (List.mem_cons_self)
  | 9, _ => exact cd_sub [true, true, false, true, true, true, false, true, false, true, true, true] _ _ (List.mem_cons_self)
  | j + 10, h => exact absurd h (by omega)
theorem fm_e8 : ∀ j, j < 9 → (Cond.eq (.elem (.field (fmT 8) "java/lang/String" "value" "[B") (.int (Int32.ofNat j))) (.int ((frmB.getD 8 []).getD j 0))) ∈ (flatC (Jvm.Cond.and given_1 narrow_1)) := by
  intro j hj
  match j, hj with
  | 0, _ => exact cd_sub [true, true, false, true, true, true, false, true, true, true, false, true] _ _ (List.mem_cons_self)
  | 1, _ => exact cd_sub [true, true, false, true, true, true, false, true, true, true, true, false] _ _ (List.mem_cons_self)
  | 2, _ => exact cd_sub [true, true, false, true, true, true, false, true, true, true, true, true] _ _ (List.mem_cons_self)
  | 3, _ => exact cd_sub [true, true, false, true, true, true, true, false, false, false, false] _ _ (List.mem_cons_self)
  | 4, _ => exact cd_sub [true, true, false, true, true, true, true, false, false, false, true, false] _ _ (List.mem_cons_self)
  | 5, _ => exact cd_sub [true, true, false, true, true, true, true, false, false, false, true, true] _ _ (List.mem_cons_self)
  | 6, _ => exact cd_sub [true, true, false, true, true, true, true, false, false, true, false] _ _ (List.mem_cons_self)
  | 7, _ => exact cd_sub [true, true, false, true, true, true, true, false, false, true, true, false] _ _ (List.mem_cons_self)
  | 8, _ => exact cd_sub [true, true, false, true, true, true, true, false, false, true, true, true] _ _ (List.mem_cons_self)
  | j + 9, h => exact absurd h (by omega)
theorem fm_e9 : ∀ j, j < 10 → (Cond.eq (.elem (.field (fmT 9) "java/lang/String" "value" "[B") (.int (Int32.ofNat j))) (.int ((frmB.getD 9 []).getD j 0))) ∈ (flatC (Jvm.Cond.and given_1 narrow_1)) := by
  intro j hj
  match j, hj with
  | 0, _ => exact cd_sub [true, true, false, true, true, true, true, false, true, true, true, false] _ _ (List.mem_cons_self)
  | 1, _ => exact cd_sub [true, true, false, true, true, true, true, false, true, true, true, true] _ _ (List.mem_cons_self)
  | 2, _ => exact cd_sub [true, true, false, true, true, true, true, true, false, false, false] _ _ (List.mem_cons_self)
  | 3, _ => exact cd_sub [true, true, false, true, true, true, true, true, false, false, true, false] _ _ (List.mem_cons_self)
  | 4, _ => exact cd_sub [true, true, false, true, true, true, true, true, false, false, true, true] _ _ (List.mem_cons_self)
  | 5, _ => exact cd_sub [true, true, false, true, true, true, true, true, false, true, false] _ _ (List.mem_cons_self)
  | 6, _ => exact cd_sub [true, true, false, true, true, true, true, true, false, true, true, false] _ _ (List.mem_cons_self)
  | 7, _ => exact cd_sub [true, true, false, true, true, true, true, true, false, true, true, true] _ _ (List.mem_cons_self)
  | 8, _ => exact cd_sub [true, true, false, true, true, true, true, true, true, false, false] _ _ (List.mem_cons_self)
  | 9, _ => exact cd_sub [true, true, false, true, true, true, true, true, true, false, true, false] _ _ (List.mem_cons_self)
  | j + 10, h => exact absurd h (by omega)
theorem fm_e10 : ∀ j, j < 6 → (Cond.eq (.elem (.field (fmT 10) "java/lang/String" "value" "[B") (.int (Int32.ofNat j))) (.int ((frmB.getD 10 []).getD j 0))) ∈ (flatC (Jvm.Cond.and given_1 narrow_1)) := by
  intro j hj
  match j, hj with
  | 0, _ => exact cd_sub [true, true, false, true, true, true, true, true, true, true, true, true] _ _ (List.mem_cons_self)
  | 1, _ => exact cd_sub [true, true, true, false, false, false, false, false, false, false, false, false] _ _ (List.mem_cons_self)
  | 2, _ => exact cd_sub [true, true, true, false, false, false, false, false, false, false, false, true, false] _ _ (List.mem_cons_self)
  | 3, _ => exact cd_sub [true, true, true, false, false, false, false, false, false, false, false, true, true] _ _ (List.mem_cons_self)
  | 4, _ => exact cd_sub [true, true, true, false, false, false, false, false, false, false, true, false] _ _ (List.mem_cons_self)
  | 5, _ => exact cd_sub [true, true, true, false, false, false, false, false, false, false, true, true, false] _ _ (List.mem_cons_self)
  | j + 6, h => exact absurd h (by omega)
theorem fm_e11 : ∀ j, j < 6 → (Cond.eq (.elem (.field (fmT 11) "java/lang/String" "value" "[B") (.int (Int32.ofNat j))) (.int ((frmB.getD 11 []).getD j 0))) ∈ (flatC (Jvm.Cond.and given_1 narrow_1)) := by
  intro j hj
  match j, hj with
  | 0, _ => exact cd_sub [true, true, true, false, false, false, false, false, false, true, true, false] _ _ (List.mem_cons_self)
  | 1, _ => exact cd_sub [true, true, true, false, false, false, false, false, false, true, true, true, false] _ _ (List.mem_cons_self)
  | 2, _ => exact cd_sub [true, true, true, false, false, false, false, false, false, true, true, true, true] _ _ (List.mem_cons_self)
  | 3, _ => exact cd_sub [true, true, true, false, false, false, false, false, true, false, false, false] _ _ (List.mem_cons_self)
  | 4, _ => exact cd_sub [true, true, true, false, false, false, false, false, true, false, false, true, false] _ _ (List.mem_cons_self)
  | 5, _ => exact cd_sub [true, true, true, false, false, false, false, false, true, false, false, true, true] _ _ (List.mem_cons_self)
  | j + 6, h => exact absurd h (by omega)
theorem fm_e12 : ∀ j, j < 6 → (Cond.eq (.elem (.field (fmT 12) "java/lang/String" "value" "[B") (.int (Int32.ofNat j))) (.int ((frmB.getD 12 []).getD j 0))) ∈ (flatC (Jvm.Cond.and given_1 narrow_1)) := by
  intro j hj
  match j, hj with
  | 0, _ => exact cd_sub [true, true, true, false, false, false, false, false, true, true, false, true, false] _ _ (List.mem_cons_self)
  | 1, _ => exact cd_sub [true, true, true, false, false, false, false, false, true, true, false, true, true] _ _ (List.mem_cons_self)
  | 2, _ => exact cd_sub [true, true, true, false, false, false, false, false, true, true, true, false, false] _ _ (List.mem_cons_self)
  | 3, _ => exact cd_sub [true, true, true, false, false, false, false, false, true, true, true, false, true] _ _ (List.mem_cons_self)
  | 4, _ => exact cd_sub [true, true, true, false, false, false, false, false, true, true, true, true, false] _ _ (List.mem_cons_self)
  | 5, _ => exact cd_sub [true, true, true, false, false, false, false, false, true, true, true, true, true] _ _ (List.mem_cons_self)
  | j + 6, h => exact absurd h (by omega)
theorem fm_e : ∀ i, i < 13 → ∀ j, j < frmL.getD i 0 → (Cond.eq (.elem (.field (fmT i) "java/lang/String" "value" "[B") (.int (Int32.ofNat j))) (.int ((frmB.getD i []).getD j 0))) ∈ (flatC (Jvm.Cond.and given_1 narrow_1)) := by
  intro i hi
  match i, hi with
  | 0, _ => exact fm_e0
  | 1, _ => exact fm_e1
  | 2, _ => exact fm_e2
  | 3, _ => exact fm_e3
  | 4, _ => exact fm_e4
  | 5, _ => exact fm_e5
  | 6, _ => exact fm_e6
  | 7, _ => exact fm_e7
  | 8, _ => exact fm_e8
  | 9, _ => exact fm_e9
  | 10, _ => exact fm_e10
  | 11, _ => exact fm_e11
  | 12, _ => exact fm_e12
  | i + 13, h => exact absurd h (by omega)
theorem fm_r : ∀ i, i < 13 → (Cond.stringRef "KiteTailRental$Commands" (frmC.getD i (0, "")).1 (frmC.getD i (0, "")).2) ∈ lw_tbl := by
  intro i hi
  match i, hi with
  | 0, _ => exact (lw_in (List.mem_append_right _ (List.mem_append_right _ (List.mem_append_right _ (List.mem_append_right _ (List.mem_append_left _ (List.mem_of_getElem? (i := 134) rfl)))))))
  | 1, _ => exact (lw_in (List.mem_append_right _ (List.mem_append_right _ (List.mem_append_right _ (List.mem_append_right _ (List.mem_append_left _ (List.mem_of_getElem? (i := 135) rfl)))))))
  | 2, _ => exact (lw_in (List.mem_append_right _ (List.mem_append_right _ (List.mem_append_right _ (List.mem_append_right _ (List.mem_append_left _ (List.mem_of_getElem? (i := 136) rfl)))))))
  | 3, _ => exact (lw_in (List.mem_append_right _ (List.mem_append_right _ (List.mem_append_right _ (List.mem_append_right _ (List.mem_append_left _ (List.mem_of_getElem? (i := 137) rfl)))))))
  | 4, _ => exact (lw_in (List.mem_append_right _ (List.mem_append_right _ (List.mem_append_right _ (List.mem_append_right _ (List.mem_append_left _ (List.mem_of_getElem? (i := 138) rfl)))))))
  | 5, _ => exact (lw_in (List.mem_append_right _ (List.mem_append_right _ (List.mem_append_right _ (List.mem_append_right _ (List.mem_append_left _ (List.mem_of_getElem? (i := 139) rfl)))))))
  | 6, _ => exact (lw_in (List.mem_append_right _ (List.mem_append_right _ (List.mem_append_right _ (List.mem_append_right _ (List.mem_append_left _ (List.mem_of_getElem? (i := 140) rfl)))))))
  | 7, _ => exact (lw_in (List.mem_append_right _ (List.mem_append_right _ (List.mem_append_right _ (List.mem_append_right _ (List.mem_append_left _ (List.mem_of_getElem? (i := 141) rfl)))))))
  | 8, _ => exact (lw_in (List.mem_append_right _ (List.mem_append_right _ (List.mem_append_right _ (List.mem_append_right _ (List.mem_append_left _ (List.mem_of_getElem? (i := 142) rfl)))))))
  | 9, _ => exact (lw_in (List.mem_append_right _ (List.mem_append_right _ (List.mem_append_right _ (List.mem_append_right _ (List.mem_append_left _ (List.mem_of_getElem? (i := 143) rfl)))))))
  | 10, _ => exact (lw_in (List.mem_append_right _ (List.mem_append_right _ (List.mem_append_right _ (List.mem_append_right _ (List.mem_append_left _ (List.mem_of_getElem? (i := 144) rfl)))))))
  | 11, _ => exact (lw_in (List.mem_append_right _ (List.mem_append_right _ (List.mem_append_right _ (List.mem_append_right _ (List.mem_append_left _ (List.mem_of_getElem? (i := 145) rfl)))))))
  | 12, _ => exact (lw_in (List.mem_append_right _ (List.mem_append_right _ (List.mem_append_right _ (List.mem_append_right _ (List.mem_append_left _ (List.mem_of_getElem? (i := 146) rfl)))))))
  | i + 13, h => exact absurd h (by omega)
theorem fs_1 : ∀ q ∈ stC, (Cond.exactly (.string "KiteTailRental" q.2.1) "java/lang/String") ∈ (flatC (Jvm.Cond.and given_1 narrow_1)) ∧ (Cond.stringRef "KiteTailRental" q.2.1 q.2.2) ∈ lw_tbl := List.forall_mem_cons.mpr ⟨⟨cd_sub [true, false, false, true, true, false, false, false, false, true, false] _ _ (List.mem_cons_self), (lw_in (List.mem_append_right _ (List.mem_append_left _ (List.mem_of_getElem? (i := 145) rfl))))⟩, List.forall_mem_cons.mpr ⟨⟨cd_sub [true, false, false, true, true, false, false, true, true, true, true, true] _ _ (List.mem_cons_self), (lw_in (List.mem_append_right _ (List.mem_append_left _ (List.mem_of_getElem? (i := 180) rfl))))⟩, List.forall_mem_cons.mpr ⟨⟨cd_sub [true, false, false, true, true, true, false, true, false, true, true, true] _ _ (List.mem_cons_self), (lw_in (List.mem_append_right _ (List.mem_append_right _ (List.mem_append_left _ (List.mem_of_getElem? (i := 7) rfl)))))⟩, List.forall_mem_cons.mpr ⟨⟨cd_sub [true, false, true, false, false, false, false, false, false, false, true, false] _ _ (List.mem_cons_self), (lw_in (List.mem_append_right _ (List.mem_append_right _ (List.mem_append_left _ (List.mem_of_getElem? (i := 17) rfl)))))⟩, List.forall_mem_cons.mpr ⟨⟨cd_sub [true, false, true, false, false, false, true, false, false, false, true, true] _ _ (List.mem_cons_self), (lw_in (List.mem_append_right _ (List.mem_append_right _ (List.mem_append_left _ (List.mem_of_getElem? (i := 45) rfl)))))⟩, List.forall_mem_cons.mpr ⟨⟨cd_sub [true, false, true, false, false, true, false, true, false, false, false] _ _ (List.mem_cons_self), (lw_in (List.mem_append_right _ (List.mem_append_right _ (List.mem_append_left _ (List.mem_of_getElem? (i := 46) rfl)))))⟩, List.forall_mem_cons.mpr ⟨⟨cd_sub [true, false, true, false, false, true, true, false, true, false, true, true] _ _ (List.mem_cons_self), (lw_in (List.mem_append_right _ (List.mem_append_right _ (List.mem_append_left _ (List.mem_of_getElem? (i := 84) rfl)))))⟩, List.forall_mem_cons.mpr ⟨⟨cd_sub [true, false, true, false, true, false, false, true, false, false, false] _ _ (List.mem_cons_self), (lw_in (List.mem_append_right _ (List.mem_append_right _ (List.mem_append_left _ (List.mem_of_getElem? (i := 94) rfl)))))⟩, List.forall_mem_cons.mpr ⟨⟨cd_sub [true, false, true, false, true, false, true, true, false, false, true, true] _ _ (List.mem_cons_self), (lw_in (List.mem_append_right _ (List.mem_append_right _ (List.mem_append_left _ (List.mem_of_getElem? (i := 116) rfl)))))⟩, List.forall_mem_cons.mpr ⟨⟨cd_sub [true, false, true, false, true, true, true, true, false, false, false] _ _ (List.mem_cons_self), (lw_in (List.mem_append_right _ (List.mem_append_right _ (List.mem_append_left _ (List.mem_of_getElem? (i := 176) rfl)))))⟩, List.forall_mem_cons.mpr ⟨⟨cd_sub [true, false, true, true, false, false, false, false, false, true, false] _ _ (List.mem_cons_self), (lw_in (List.mem_append_right _ (List.mem_append_right _ (List.mem_append_left _ (List.mem_of_getElem? (i := 201) rfl)))))⟩, List.forall_mem_cons.mpr ⟨⟨cd_sub [true, false, true, true, false, false, false, true, true, true, true, false] _ _ (List.mem_cons_self), (lw_in (List.mem_append_right _ (List.mem_append_right _ (List.mem_append_left _ (List.mem_of_getElem? (i := 219) rfl)))))⟩, List.forall_mem_cons.mpr ⟨⟨cd_sub [true, false, true, true, false, false, true, true, false, true, true, true] _ _ (List.mem_cons_self), (lw_in (List.mem_append_right _ (List.mem_append_right _ (List.mem_append_right _ (List.mem_append_left _ (List.mem_of_getElem? (i := 0) rfl))))))⟩, List.forall_mem_cons.mpr ⟨⟨cd_sub [true, false, true, true, false, true, false, true, true, true, false, false] _ _ (List.mem_cons_self), (lw_in (List.mem_append_right _ (List.mem_append_right _ (List.mem_append_right _ (List.mem_append_left _ (List.mem_of_getElem? (i := 1) rfl))))))⟩, List.forall_mem_cons.mpr ⟨⟨cd_sub [true, false, true, true, false, true, true, true, true, false, false] _ _ (List.mem_cons_self), (lw_in (List.mem_append_right _ (List.mem_append_right _ (List.mem_append_right _ (List.mem_append_left _ (List.mem_of_getElem? (i := 43) rfl))))))⟩, List.forall_mem_cons.mpr ⟨⟨cd_sub [true, false, true, true, true, false, false, true, true, true, true, false] _ _ (List.mem_cons_self), (lw_in (List.mem_append_right _ (List.mem_append_right _ (List.mem_append_right _ (List.mem_append_left _ (List.mem_of_getElem? (i := 44) rfl))))))⟩, List.forall_mem_cons.mpr ⟨⟨cd_sub [true, false, true, true, true, true, false, false, false, false, false] _ _ (List.mem_cons_self), (lw_in (List.mem_append_right _ (List.mem_append_right _ (List.mem_append_right _ (List.mem_append_left _ (List.mem_of_getElem? (i := 45) rfl))))))⟩, List.forall_mem_cons.mpr ⟨⟨cd_sub [true, false, true, true, true, true, true, false, false, true, true, false] _ _ (List.mem_cons_self), (lw_in (List.mem_append_right _ (List.mem_append_right _ (List.mem_append_right _ (List.mem_append_left _ (List.mem_of_getElem? (i := 65) rfl))))))⟩, List.forall_mem_cons.mpr ⟨⟨cd_sub [true, true, false, false, false, false, false, false, true, false, true, false] _ _ (List.mem_cons_self), (lw_in (List.mem_append_right _ (List.mem_append_right _ (List.mem_append_right _ (List.mem_append_left _ (List.mem_of_getElem? (i := 100) rfl))))))⟩, List.forall_mem_cons.mpr ⟨⟨cd_sub [true, true, false, false, false, true, false, false, false, false, false] _ _ (List.mem_cons_self), (lw_in (List.mem_append_right _ (List.mem_append_right _ (List.mem_append_right _ (List.mem_append_left _ (List.mem_of_getElem? (i := 124) rfl))))))⟩, List.forall_mem_cons.mpr ⟨⟨cd_sub [true, true, false, false, false, true, false, true, true, false, true, true] _ _ (List.mem_cons_self), (lw_in (List.mem_append_right _ (List.mem_append_right _ (List.mem_append_right _ (List.mem_append_left _ (List.mem_of_getElem? (i := 151) rfl))))))⟩, List.forall_mem_cons.mpr ⟨⟨cd_sub [true, true, false, false, true, false, false, false, false, false, false] _ _ (List.mem_cons_self), (lw_in (List.mem_append_right _ (List.mem_append_right _ (List.mem_append_right _ (List.mem_append_left _ (List.mem_of_getElem? (i := 194) rfl))))))⟩, List.forall_mem_cons.mpr ⟨⟨cd_sub [true, true, false, false, true, false, true, true, false, false, true, false] _ _ (List.mem_cons_self), (lw_in (List.mem_append_right _ (List.mem_append_right _ (List.mem_append_right _ (List.mem_append_left _ (List.mem_of_getElem? (i := 210) rfl))))))⟩, List.forall_mem_cons.mpr ⟨⟨cd_sub [true, true, false, false, true, true, false, true, false, false, true, true] _ _ (List.mem_cons_self), (lw_in (List.mem_append_right _ (List.mem_append_right _ (List.mem_append_right _ (List.mem_append_left _ (List.mem_of_getElem? (i := 238) rfl))))))⟩, List.forall_mem_cons.mpr ⟨⟨cd_sub [true, true, false, false, true, true, true, false, false, true, true, true] _ _ (List.mem_cons_self), (lw_in (List.mem_append_right _ (List.mem_append_right _ (List.mem_append_right _ (List.mem_append_right _ (List.mem_append_left _ (List.mem_of_getElem? (i := 6) rfl)))))))⟩, List.forall_mem_cons.mpr ⟨⟨cd_sub [true, true, false, true, false, false, true, false, true, false, false] _ _ (List.mem_cons_self), (lw_in (List.mem_append_right _ (List.mem_append_right _ (List.mem_append_right _ (List.mem_append_right _ (List.mem_append_left _ (List.mem_of_getElem? (i := 18) rfl)))))))⟩, List.forall_mem_cons.mpr ⟨⟨cd_sub [true, true, true, false, false, true, false, true, false, false, true, false] _ _ (List.mem_cons_self), (lw_in (List.mem_append_right _ (List.mem_append_right _ (List.mem_append_right _ (List.mem_append_right _ (List.mem_append_right _ (List.mem_append_left _ (List.mem_of_getElem? (i := 131) rfl))))))))⟩, List.forall_mem_cons.mpr ⟨⟨cd_sub [true, true, true, false, false, true, true, false, true, false, false, false] _ _ (List.mem_cons_self), (lw_in (List.mem_append_right _ (List.mem_append_right _ (List.mem_append_right _ (List.mem_append_right _ (List.mem_append_right _ (List.mem_append_left _ (List.mem_of_getElem? (i := 148) rfl))))))))⟩, List.forall_mem_cons.mpr ⟨⟨cd_sub [true, true, true, false, false, true, true, true, false, true, false, false] _ _ (List.mem_cons_self), (lw_in (List.mem_append_right _ (List.mem_append_right _ (List.mem_append_right _ (List.mem_append_right _ (List.mem_append_right _ (List.mem_append_left _ (List.mem_of_getElem? (i := 171) rfl))))))))⟩, List.forall_mem_cons.mpr ⟨⟨cd_sub [true, true, true, false, true, false, false, false, false, true, true, true, false] _ _ (List.mem_cons_self), (lw_in (List.mem_append_right _ (List.mem_append_right _ (List.mem_append_right _ (List.mem_append_right _ (List.mem_append_right _ (List.mem_append_left _ (List.mem_of_getElem? (i := 179) rfl))))))))⟩, List.forall_mem_cons.mpr ⟨⟨cd_sub [true, true, true, false, true, false, false, true, false, true, true, true, false] _ _ (List.mem_cons_self), (lw_in (List.mem_append_right _ (List.mem_append_right _ (List.mem_append_right _ (List.mem_append_right _ (List.mem_append_right _ (List.mem_append_left _ (List.mem_of_getElem? (i := 212) rfl))))))))⟩, List.forall_mem_cons.mpr ⟨⟨cd_sub [true, true, true, false, true, false, true, false, false, false, false, true, true] _ _ (List.mem_cons_self), (lw_in (List.mem_append_right _ (List.mem_append_right _ (List.mem_append_right _ (List.mem_append_right _ (List.mem_append_right _ (List.mem_append_left _ (List.mem_of_getElem? (i := 236) rfl))))))))⟩, List.forall_mem_cons.mpr ⟨⟨cd_sub [true, true, true, false, true, false, true, true, false, false, true, true, false] _ _ (List.mem_cons_self), (lw_in (List.mem_append_right _ (List.mem_append_right _ (List.mem_append_right _ (List.mem_append_right _ (List.mem_append_right _ (List.mem_append_right _ (List.mem_append_left _ (List.mem_of_getElem? (i := 5) rfl)))))))))⟩, List.forall_mem_cons.mpr ⟨⟨cd_sub [true, true, true, false, true, true, false, false, false, false, false, true, false] _ _ (List.mem_cons_self), (lw_in (List.mem_append_right _ (List.mem_append_right _ (List.mem_append_right _ (List.mem_append_right _ (List.mem_append_right _ (List.mem_append_right _ (List.mem_append_left _ (List.mem_of_getElem? (i := 18) rfl)))))))))⟩, List.forall_mem_cons.mpr ⟨⟨cd_sub [true, true, true, false, true, true, false, true, false, true, false, false] _ _ (List.mem_cons_self), (lw_in (List.mem_append_right _ (List.mem_append_right _ (List.mem_append_right _ (List.mem_append_right _ (List.mem_append_right _ (List.mem_append_right _ (List.mem_append_left _ (List.mem_of_getElem? (i := 30) rfl)))))))))⟩, (fun q hq => nomatch hq)⟩⟩⟩⟩⟩⟩⟩⟩⟩⟩⟩⟩⟩⟩⟩⟩⟩⟩⟩⟩⟩⟩⟩⟩⟩⟩⟩⟩⟩⟩⟩⟩⟩⟩⟩
theorem fs_nc : ∀ q ∈ ncC, (Cond.not (.castable q.1 q.2)) ∈ (flatC (Jvm.Cond.and given_1 narrow_1)) := List.forall_mem_cons.mpr ⟨cd_sub [true, false, false, true, false, false, true, true, false, false, false] _ _ (List.mem_cons_self), List.forall_mem_cons.mpr ⟨cd_sub [true, false, false, true, false, true, false, false, false, false, true, true] _ _ (List.mem_cons_self), List.forall_mem_cons.mpr ⟨cd_sub [true, false, false, true, false, true, false, true, false, true, false] _ _ (List.mem_cons_self), List.forall_mem_cons.mpr ⟨cd_sub [true, false, false, true, false, true, true, false, false, true, true, true] _ _ (List.mem_cons_self), List.forall_mem_cons.mpr ⟨cd_sub [true, false, false, true, false, false, false, true, true, true, false, true] _ _ (List.mem_cons_self), List.forall_mem_cons.mpr ⟨cd_sub [true, false, false, true, false, true, false, false, false, true, false] _ _ (List.mem_cons_self), List.forall_mem_cons.mpr ⟨cd_sub [true, false, false, true, false, true, false, true, false, true, true, false] _ _ (List.mem_cons_self), List.forall_mem_cons.mpr ⟨cd_sub [true, false, false, true, false, true, true, false, true, false, false] _ _ (List.mem_cons_self), List.forall_mem_cons.mpr ⟨cd_sub [true, false, false, true, false, false, false, true, true, true, true, true] _ _ (List.mem_cons_self), List.forall_mem_cons.mpr ⟨cd_sub [true, false, false, true, false, false, true, true, false, false, true, true] _ _ (List.mem_cons_self), List.forall_mem_cons.mpr ⟨cd_sub [true, false, false, true, false, true, false, true, true, false, false] _ _ (List.mem_cons_self), List.forall_mem_cons.mpr ⟨cd_sub [true, false, false, true, false, true, true, false, true, false, true, true] _ _ (List.mem_cons_self), List.forall_mem_cons.mpr ⟨cd_sub [true, false, false, true, false, false, true, false, false, false, false] _ _ (List.mem_cons_self), List.forall_mem_cons.mpr ⟨cd_sub [true, false, false, true, false, false, true, true, false, true, false] _ _ (List.mem_cons_self), List.forall_mem_cons.mpr ⟨cd_sub [true, false, false, true, false, true, false, false, false, true, true, false] _ _ (List.mem_cons_self), List.forall_mem_cons.mpr ⟨cd_sub [true, false, false, true, false, true, true, false, true, true, false] _ _ (List.mem_cons_self), List.forall_mem_cons.mpr ⟨cd_sub [true, false, false, true, false, false, true, false, false, false, true, false] _ _ (List.mem_cons_self), List.forall_mem_cons.mpr ⟨cd_sub [true, false, false, true, false, false, true, true, false, true, true, false] _ _ (List.mem_cons_self), List.forall_mem_cons.mpr ⟨cd_sub [true, false, false, true, false, true, false, false, false, true, true, true] _ _ (List.mem_cons_self), List.forall_mem_cons.mpr ⟨cd_sub [true, false, false, true, false, true, false, true, true, false, true, false] _ _ (List.mem_cons_self), (fun q hq => nomatch hq)⟩⟩⟩⟩⟩⟩⟩⟩⟩⟩⟩⟩⟩⟩⟩⟩⟩⟩⟩⟩
theorem fm_inj : ∀ i j : Fin 13, frmL.getD i.1 0 = frmL.getD j.1 0 → (∀ k : Fin 12, k.1 < frmL.getD i.1 0 → (frmB.getD i.1 []).getD k.1 0 = (frmB.getD j.1 []).getD k.1 0) → i = j := by decide +kernel
theorem fm_small : ∀ i : Fin 13, frmL.getD i.1 0 ≤ 12 := by decide +kernel
/-- the forms, where they stand -/
theorem fm_start {args : Array Value} {s : State} {A : Nat → Prop} (hs : ∀ w ∈ (flatC (Jvm.Cond.and given_1 narrow_1)), w.before args s = true) (hA : ∀ a : Nat, a < s.heap.size → ¬ A a) : ∃ adK adV : Nat → Nat, vk_S 13 frmL frmB adK adV A s s.heap ∧ ∀ i : Nat, i < 13 → (fmT i).eval args s none [] s = some (.ref (adK i)) := by
  have h0 : ∀ i : Nat, ∃ q : Nat × Nat, i < 13 → (fmT i).eval args s none [] s = some (.ref q.1) ∧ (Term.field (fmT i) "java/lang/String" "value" "[B").eval args s none [] s = some (.ref q.2) ∧ va_T .byte q.2 (frmL.getD i 0) (fun j => .int ((frmB.getD i []).getD j 0)) A s s.heap := by
    intro i
    by_cases hi : i < 13
    · obtain ⟨a, c, cA, kA, q1, -⟩ := Cond.exactly_spec (args := args) (first := s) (o := none) (s := s) (idx := []) (t := fmT i) (cls := "java/lang/String") (hs _ (fm_a i hi))
      obtain ⟨t, ht, hT⟩ := va_Tof (f := fun j => .int ((frmB.getD i []).getD j 0)) (A := A) (by have := fm_small ⟨i, hi⟩; show frmL.getD i 0 < 2 ^ 31; exact Nat.lt_of_le_of_lt this (by decide)) (hs _ (fm_c i hi)) (va_eqt (hs _ (fm_d i hi))) (fun j hj => va_eqt (hs _ (fm_e i hi j hj))) hA
      exact ⟨(a, t), fun _ => ⟨q1, ht, hT⟩⟩
    · exact ⟨(0, 0), fun h => absurd h hi⟩
  obtain ⟨ad, had⟩ := Classical.axiomOfChoice h0
  refine ⟨fun i => (ad i).1, fun i => (ad i).2, ⟨fun i hi => ?_, fun i j hi hj e => ?_⟩, fun i hi => (had i hi).1⟩
  · obtain ⟨g1, g2, g3⟩ := had i hi
    exact ⟨va_Oof (hs _ (fm_a i hi)) g1 hA, vk_OFof g1 (va_eqt (hs _ (fm_b i hi))) hA, vk_OFof g1 g2 hA, g3⟩
  · obtain ⟨g1, g2, g3⟩ := had i hi
    obtain ⟨f1, f2, f3⟩ := had j hj
    rw [va_fe g1] at g2
    have e' : (ad i).1 = (ad j).1 := e
    rw [va_fe f1, ← e', g2] at f2
    have e2 : (ad i).2 = (ad j).2 := by
      injection f2 with f2
      injection f2
    rw [← e2] at f3
    obtain ⟨c1, k1, -, -, -, k5, k6, -⟩ := g3
    obtain ⟨c2, m1, -, -, -, m5, m6, -⟩ := f3
    cases k1.symm.trans m1
    have hl : frmL.getD i 0 = frmL.getD j 0 := by
      have h := k5.symm.trans m5
      have a1 := fm_small ⟨i, hi⟩
      have a2 := fm_small ⟨j, hj⟩
      exact (nI_eq (a := frmL.getD i 0) (b := frmL.getD j 0) (Nat.lt_of_le_of_lt a1 (by decide)) (Nat.lt_of_le_of_lt a2 (by decide))).mp h
    have h := fm_inj ⟨i, hi⟩ ⟨j, hj⟩ hl (fun k hk => by
      have h1 := k6 k.1 hk
      have h2 := m6 k.1 (by rw [← hl]; exact hk)
      rw [h1] at h2
      injection h2 with h2
      injection h2)
    exact congrArg Fin.val h

