/-! THE REFERENCE'S ROW: the state as a row of 91 numbers -/
def kdO (x : Int32) : Int32 := if x = nI 114 then nI 0 else if x = nI 116 then nI 1 else nI 2
def scO (S : St) (i : Nat) : Int32 := match i with
  | 0 => S.1 0
  | 1 => S.1 1
  | 2 => S.1 7
  | 3 => S.1 8
  | 4 => S.1 2
  | 5 => S.1 3
  | 6 => S.1 4
  | 7 => S.1 5
  | _ => S.1 6
def coO (S : St) (x c : Nat) : Int32 := match x with
  | 0 => S.2 1 c
  | 1 => S.2 2 c
  | _ => S.2 3 c
def taO (S : St) (x t : Nat) : Int32 := match x with
  | 0 => S.2 4 t
  | _ => S.2 5 t + nI 1
def moO (S : St) (x k : Nat) : Int32 := match x with
  | 0 => S.2 7 k
  | 1 => kdO (S.2 8 k)
  | 2 => S.2 9 k
  | 3 => S.2 10 k
  | 4 => S.2 11 k + nI 1
  | _ => S.2 12 k
def wOf (S : St) (nc nt no : Nat) : Nat → Int32 := fun i => if i < 9 then scO S i else if i < 27 then (if (i - 9) / 3 < nc then coO S ((i - 9) % 3) ((i - 9) / 3) else 0) else if i < 43 then (if (i - 27) / 2 < nt then taO S ((i - 27) % 2) ((i - 27) / 2) else 0) else if i < 91 then (if (i - 43) / 6 < no then moO S ((i - 43) % 6) ((i - 43) / 6) else 0) else 0
section WO
variable {S S' : St} {nc nt no : Nat}
theorem w_s {i : Nat} (h : i < 9) : wOf S nc nt no i = scO S i := if_pos h
theorem w_c {c x : Nat} (hc : c < 6) (hx : x < 3) : wOf S nc nt no (9 + 3 * c + x) = if c < nc then coO S x c else 0 := by
  unfold wOf
  rw [if_neg (by omega), if_pos (by omega), show (9 + 3 * c + x - 9) / 3 = c by omega, show (9 + 3 * c + x - 9) % 3 = x by omega]
theorem w_t {t x : Nat} (ht : t < 8) (hx : x < 2) : wOf S nc nt no (27 + 2 * t + x) = if t < nt then taO S x t else 0 := by
  unfold wOf
  rw [if_neg (by omega), if_neg (by omega), if_pos (by omega), show (27 + 2 * t + x - 27) / 2 = t by omega, show (27 + 2 * t + x - 27) % 2 = x by omega]
theorem w_m {k x : Nat} (hk : k < 8) (hx : x < 6) : wOf S nc nt no (43 + 6 * k + x) = if k < no then moO S x k else 0 := by
  unfold wOf
  rw [if_neg (by omega), if_neg (by omega), if_neg (by omega), if_pos (by omega), show (43 + 6 * k + x - 43) / 6 = k by omega, show (43 + 6 * k + x - 43) % 6 = x by omega]
theorem w_h {i : Nat} (h : 91 ≤ i) : wOf S nc nt no i = 0 := by
  unfold wOf
  rw [if_neg (by omega), if_neg (by omega), if_neg (by omega), if_neg (by omega)]
theorem w_ext {f g : Nat → Int32} (hs : ∀ i, i < 9 → f i = g i) (hc : ∀ c x, c < 6 → x < 3 → f (9 + 3 * c + x) = g (9 + 3 * c + x)) (ht : ∀ t x, t < 8 → x < 2 → f (27 + 2 * t + x) = g (27 + 2 * t + x)) (hm : ∀ k x, k < 8 → x < 6 → f (43 + 6 * k + x) = g (43 + 6 * k + x)) (hh : ∀ i, 91 ≤ i → f i = g i) : f = g := by
  funext i
  by_cases h1 : i < 9
  · exact hs i h1
  · by_cases h2 : i < 27
    · have := hc ((i - 9) / 3) ((i - 9) % 3) (by omega) (by omega)
      rw [show 9 + 3 * ((i - 9) / 3) + (i - 9) % 3 = i by omega] at this
      exact this
    · by_cases h3 : i < 43
      · have := ht ((i - 27) / 2) ((i - 27) % 2) (by omega) (by omega)
        rw [show 27 + 2 * ((i - 27) / 2) + (i - 27) % 2 = i by omega] at this
        exact this
      · by_cases h4 : i < 91
        · have := hm ((i - 43) / 6) ((i - 43) % 6) (by omega) (by omega)
          rw [show 43 + 6 * ((i - 43) / 6) + (i - 43) % 6 = i by omega] at this
          exact this
        · exact hh i (by omega)
/-- the row speaks of what is there alone -/
theorem w_cong (hs : ∀ i, i < 9 → scO S i = scO S' i) (hc : ∀ c x, c < nc → x < 3 → coO S x c = coO S' x c) (ht : ∀ t x, t < nt → x < 2 → taO S x t = taO S' x t) (hm : ∀ k x, k < no → x < 6 → moO S x k = moO S' x k) : wOf S nc nt no = wOf S' nc nt no := by
  refine w_ext (fun i hi => ?_) (fun c x h1 h2 => ?_) (fun t x h1 h2 => ?_) (fun k x h1 h2 => ?_) (fun i hi => ?_)
  · rw [w_s hi, w_s hi, hs i hi]
  · rw [w_c h1 h2, w_c h1 h2]
    split
    · exact hc c x (by assumption) h2
    · rfl
  · rw [w_t h1 h2, w_t h1 h2]
    split
    · exact ht t x (by assumption) h2
    · rfl
  · rw [w_m h1 h2, w_m h1 h2]
    split
    · exact hm k x (by assumption) h2
    · rfl
  · rw [w_h hi, w_h hi]
theorem wU_s {i : Nat} {v : Int32} (hi : i < 9) (h1 : scO S' i = v) (hs : ∀ j, j < 9 → j ≠ i → scO S' j = scO S j) (h2 : S'.2 = S.2) : upd (wOf S nc nt no) i v = wOf S' nc nt no := by
  have e1 : coO S' = coO S := by funext x c; unfold coO; rw [h2]
  have e2 : taO S' = taO S := by funext x c; unfold taO; rw [h2]
  have e3 : moO S' = moO S := by funext x c; unfold moO; rw [h2]
  refine w_ext (fun j hj => ?_) (fun c x g1 g2 => ?_) (fun t x g1 g2 => ?_) (fun k x g1 g2 => ?_) (fun j hj => ?_)
  · rw [w_s hj]
    by_cases e : j = i
    · subst e
      rw [upd_s, h1]
    · rw [upd_n _ e, w_s hj, hs j hj e]
  · rw [upd_n _ (by omega), w_c g1 g2, w_c g1 g2, e1]
  · rw [upd_n _ (by omega), w_t g1 g2, w_t g1 g2, e2]
  · rw [upd_n _ (by omega), w_m g1 g2, w_m g1 g2, e3]
  · rw [upd_n _ (by omega), w_h hj, w_h hj]
theorem wU_c {c x : Nat} {v : Int32} (hc6 : nc ≤ 6) (hc : c < nc) (hx : x < 3) (h1 : coO S' x c = v) (hs : S'.1 = S.1) (h2 : ∀ c' x', x' < 3 → (c' ≠ c ∨ x' ≠ x) → coO S' x' c' = coO S x' c') (h3 : taO S' = taO S) (h4 : moO S' = moO S) : upd (wOf S nc nt no) (9 + 3 * c + x) v = wOf S' nc nt no := by
  have e1 : scO S' = scO S := by funext i; unfold scO; rw [hs]
  refine w_ext (fun j hj => ?_) (fun c' x' g1 g2 => ?_) (fun t x g1 g2 => ?_) (fun k x g1 g2 => ?_) (fun j hj => ?_)
  · rw [upd_n _ (by omega), w_s hj, w_s hj, e1]
  · by_cases e : c' = c ∧ x' = x
    · obtain ⟨rfl, rfl⟩ := e
      rw [upd_s, w_c g1 g2, if_pos hc, h1]
    · rw [upd_n _ (by omega), w_c g1 g2, w_c g1 g2, h2 c' x' g2 (by omega)]
  · rw [upd_n _ (by omega), w_t g1 g2, w_t g1 g2, h3]
  · rw [upd_n _ (by omega), w_m g1 g2, w_m g1 g2, h4]
  · rw [upd_n _ (by omega), w_h hj, w_h hj]
theorem wU_t {t x : Nat} {v : Int32} (ht8 : nt ≤ 8) (ht : t < nt) (hx : x < 2) (h1 : taO S' x t = v) (hs : S'.1 = S.1) (h2 : ∀ t' x', x' < 2 → (t' ≠ t ∨ x' ≠ x) → taO S' x' t' = taO S x' t') (h3 : coO S' = coO S) (h4 : moO S' = moO S) : upd (wOf S nc nt no) (27 + 2 * t + x) v = wOf S' nc nt no := by
  have e1 : scO S' = scO S := by funext i; unfold scO; rw [hs]
  refine w_ext (fun j hj => ?_) (fun c' x' g1 g2 => ?_) (fun t' x' g1 g2 => ?_) (fun k x g1 g2 => ?_) (fun j hj => ?_)
  · rw [upd_n _ (by omega), w_s hj, w_s hj, e1]
  · rw [upd_n _ (by omega), w_c g1 g2, w_c g1 g2, h3]
  · by_cases e : t' = t ∧ x' = x
    · obtain ⟨rfl, rfl⟩ := e
      rw [upd_s, w_t g1 g2, if_pos ht, h1]
    · rw [upd_n _ (by omega), w_t g1 g2, w_t g1 g2, h2 t' x' g2 (by omega)]
  · rw [upd_n _ (by omega), w_m g1 g2, w_m g1 g2, h4]
  · rw [upd_n _ (by omega), w_h hj, w_h hj]
theorem wU_m {k x : Nat} {v : Int32} (hk8 : no ≤ 8) (hk : k < no) (hx : x < 6) (h1 : moO S' x k = v) (hs : S'.1 = S.1) (h2 : ∀ k' x', x' < 6 → (k' ≠ k ∨ x' ≠ x) → moO S' x' k' = moO S x' k') (h3 : coO S' = coO S) (h4 : taO S' = taO S) : upd (wOf S nc nt no) (43 + 6 * k + x) v = wOf S' nc nt no := by
  have e1 : scO S' = scO S := by funext i; unfold scO; rw [hs]
  refine w_ext (fun j hj => ?_) (fun c' x' g1 g2 => ?_) (fun t' x' g1 g2 => ?_) (fun k' x' g1 g2 => ?_) (fun j hj => ?_)
  · rw [upd_n _ (by omega), w_s hj, w_s hj, e1]
  · rw [upd_n _ (by omega), w_c g1 g2, w_c g1 g2, h3]
  · rw [upd_n _ (by omega), w_t g1 g2, w_t g1 g2, h4]
  · by_cases e : k' = k ∧ x' = x
    · obtain ⟨rfl, rfl⟩ := e
      rw [upd_s, w_m g1 g2, if_pos hk, h1]
    · rw [upd_n _ (by omega), w_m g1 g2, w_m g1 g2, h2 k' x' g2 (by omega)]
  · rw [upd_n _ (by omega), w_h hj, w_h hj]
end WO
/-- single writes -/
theorem setA_at (S : St) (k : Nat) (f : Nat → Int32) : (setA S k f).2 k = f := if_pos rfl
theorem setA_off {S : St} {k j : Nat} {f : Nat → Int32} (h : j ≠ k) : (setA S k f).2 j = S.2 j := if_neg h
theorem setS_at (S : St) (k : Nat) (v : Int32) : (setS S k v).1 k = v := if_pos rfl
theorem setS_off {S : St} {k j : Nat} {v : Int32} (h : j ≠ k) : (setS S k v).1 j = S.1 j := if_neg h
section WU
variable {S : St} {nc nt no : Nat}
theorem wU_ar {c : Nat} {v : Int32} (hc6 : nc ≤ 6) (hc : c < nc) : upd (wOf S nc nt no) (9 + 3 * c + 1) v = wOf (setA S 2 (upd (S.2 2) c v)) nc nt no := by
  refine wU_c hc6 hc (by decide) (upd_s _ _ _) rfl (fun c' x' h hn => ?_) rfl rfl
  match x', h, hn with
  | 0, _, _ => rfl
  | 1, _, hn => exact upd_n _ (by omega)
  | 2, _, _ => rfl
theorem wU_fl {c : Nat} {v : Int32} (hc6 : nc ≤ 6) (hc : c < nc) : upd (wOf S nc nt no) (9 + 3 * c + 2) v = wOf (setA S 3 (upd (S.2 3) c v)) nc nt no := by
  refine wU_c hc6 hc (by decide) (upd_s _ _ _) rfl (fun c' x' h hn => ?_) rfl rfl
  match x', h, hn with
  | 0, _, _ => rfl
  | 1, _, _ => rfl
  | 2, _, hn => exact upd_n _ (by omega)
theorem wU_re {t : Nat} {v : Int32} (ht8 : nt ≤ 8) (ht : t < nt) : upd (wOf S nc nt no) (27 + 2 * t + 1) (v + nI 1) = wOf (setA S 5 (upd (S.2 5) t v)) nc nt no := by
  refine wU_t ht8 ht (by decide) (congrArg (· + nI 1) (upd_s _ _ _)) rfl (fun t' x' h hn => ?_) rfl rfl
  match x', h, hn with
  | 0, _, _ => rfl
  | 1, _, hn => exact congrArg (· + nI 1) (upd_n _ (by omega))
theorem wU_se {k : Nat} {v : Int32} (hk8 : no ≤ 8) (hk : k < no) : upd (wOf S nc nt no) (43 + 6 * k + 4) (v + nI 1) = wOf (setA S 11 (upd (S.2 11) k v)) nc nt no := by
  refine wU_m hk8 hk (by decide) (congrArg (· + nI 1) (upd_s _ _ _)) rfl (fun k' x' h hn => ?_) rfl rfl
  match x', h, hn with
  | 0, _, _ => rfl
  | 1, _, _ => rfl
  | 2, _, _ => rfl
  | 3, _, _ => rfl
  | 4, _, hn => exact congrArg (· + nI 1) (upd_n _ (by omega))
  | 5, _, _ => rfl
theorem wU_tb {k : Nat} {v : Int32} (hk8 : no ≤ 8) (hk : k < no) : upd (wOf S nc nt no) (43 + 6 * k + 5) v = wOf (setA S 12 (upd (S.2 12) k v)) nc nt no := by
  refine wU_m hk8 hk (by decide) (upd_s _ _ _) rfl (fun k' x' h hn => ?_) rfl rfl
  match x', h, hn with
  | 0, _, _ => rfl
  | 1, _, _ => rfl
  | 2, _, _ => rfl
  | 3, _, _ => rfl
  | 4, _, _ => rfl
  | 5, _, hn => exact upd_n _ (by omega)
theorem sc_all {P : Nat → Prop} (h0 : P 0) (h1 : P 1) (h2 : P 2) (h3 : P 3) (h4 : P 4) (h5 : P 5) (h6 : P 6) (h7 : P 7) (h8 : P 8) : ∀ j, j < 9 → P j
  | 0, _ => h0 | 1, _ => h1 | 2, _ => h2 | 3, _ => h3 | 4, _ => h4 | 5, _ => h5 | 6, _ => h6 | 7, _ => h7 | 8, _ => h8
  | _ + 9, h => absurd h (by omega)
theorem wU_4 {v : Int32} : upd (wOf S nc nt no) 4 v = wOf (setS S 2 v) nc nt no := wU_s (by decide) rfl (sc_all (fun _ => rfl) (fun _ => rfl) (fun _ => rfl) (fun _ => rfl) (fun h => absurd rfl h) (fun _ => rfl) (fun _ => rfl) (fun _ => rfl) (fun _ => rfl)) rfl
theorem wU_5 {v : Int32} : upd (wOf S nc nt no) 5 v = wOf (setS S 3 v) nc nt no := wU_s (by decide) rfl (sc_all (fun _ => rfl) (fun _ => rfl) (fun _ => rfl) (fun _ => rfl) (fun _ => rfl) (fun h => absurd rfl h) (fun _ => rfl) (fun _ => rfl) (fun _ => rfl)) rfl
theorem wU_6 {v : Int32} : upd (wOf S nc nt no) 6 v = wOf (setS S 4 v) nc nt no := wU_s (by decide) rfl (sc_all (fun _ => rfl) (fun _ => rfl) (fun _ => rfl) (fun _ => rfl) (fun _ => rfl) (fun _ => rfl) (fun h => absurd rfl h) (fun _ => rfl) (fun _ => rfl)) rfl
theorem wU_7 {v : Int32} : upd (wOf S nc nt no) 7 v = wOf (setS S 5 v) nc nt no := wU_s (by decide) rfl (sc_all (fun _ => rfl) (fun _ => rfl) (fun _ => rfl) (fun _ => rfl) (fun _ => rfl) (fun _ => rfl) (fun _ => rfl) (fun h => absurd rfl h) (fun _ => rfl)) rfl
theorem wU_8 {v : Int32} : upd (wOf S nc nt no) 8 v = wOf (setS S 6 v) nc nt no := wU_s (by decide) rfl (sc_all (fun _ => rfl) (fun _ => rfl) (fun _ => rfl) (fun _ => rfl) (fun _ => rfl) (fun _ => rfl) (fun _ => rfl) (fun _ => rfl) (fun h => absurd rfl h)) rfl
theorem wR_c {c x : Nat} (hc6 : nc ≤ 6) (hc : c < nc) (hx : x < 3) : wOf S nc nt no (9 + 3 * c + x) = coO S x c := by rw [w_c (by omega) hx, if_pos hc]
theorem wR_t {t x : Nat} (ht8 : nt ≤ 8) (ht : t < nt) (hx : x < 2) : wOf S nc nt no (27 + 2 * t + x) = taO S x t := by rw [w_t (by omega) hx, if_pos ht]
theorem wR_m {k x : Nat} (hk8 : no ≤ 8) (hk : k < no) (hx : x < 6) : wOf S nc nt no (43 + 6 * k + x) = moO S x k := by rw [w_m (by omega) hx, if_pos hk]
/-- a committee more -/
theorem w_com {m : Int32} (hwf : Wf S nc nt no) (hlt : nc < 6) : upd (upd (upd (upd (wOf S nc nt no) (9 + 3 * nc + 0) m) (9 + 3 * nc + 1) (nI 0)) (9 + 3 * nc + 2) (nI 1)) 0 (nI (nc + 1)) = wOf (comS S nc m) (nc + 1) nt no := by
  obtain ⟨h0, -⟩ := hwf
  refine w_ext (fun j hj => ?_) (fun c x g1 g2 => ?_) (fun t x g1 g2 => ?_) (fun k x g1 g2 => ?_) (fun j hj => ?_)
  · rw [w_s hj]
    by_cases e : j = 0
    · subst e
      rw [upd_s]
      show nI (nc + 1) = S.1 0 + nI 1
      rw [h0, inM]
    · rw [upd_n _ e, upd_n _ (by omega), upd_n _ (by omega), upd_n _ (by omega), w_s hj]
      revert e
      exact sc_all (P := fun j => j ≠ 0 → scO S j = scO (comS S nc m) j) (fun h => absurd rfl h) (fun _ => rfl) (fun _ => rfl) (fun _ => rfl) (fun _ => rfl) (fun _ => rfl) (fun _ => rfl) (fun _ => rfl) (fun _ => rfl) j hj
  · rw [w_c g1 g2, upd_n _ (by omega)]
    by_cases e : c = nc
    · subst e
      rw [if_pos (by omega)]
      match x, g2 with
      | 0, _ => rw [upd_n _ (by omega), upd_n _ (by omega), upd_s]; exact (upd_s _ _ _).symm
      | 1, _ => rw [upd_n _ (by omega), upd_s]; exact (upd_s _ _ _).symm
      | 2, _ => rw [upd_s]; exact (upd_s _ _ _).symm
    · rw [upd_n _ (by omega), upd_n _ (by omega), upd_n _ (by omega), w_c g1 g2]
      by_cases hl : c < nc
      · rw [if_pos hl, if_pos (by omega)]
        match x, g2 with
        | 0, _ => exact (upd_n _ e).symm
        | 1, _ => exact (upd_n _ e).symm
        | 2, _ => exact (upd_n _ e).symm
      · rw [if_neg hl, if_neg (by omega)]
  · rw [w_t g1 g2, upd_n _ (by omega), upd_n _ (by omega), upd_n _ (by omega), upd_n _ (by omega), w_t g1 g2]
    rfl
  · rw [w_m g1 g2, upd_n _ (by omega), upd_n _ (by omega), upd_n _ (by omega), upd_n _ (by omega), w_m g1 g2]
    rfl
  · rw [upd_n _ (by omega), upd_n _ (by omega), upd_n _ (by omega), upd_n _ (by omega), w_h hj, w_h hj]
/-- a tail more -/
theorem w_tai {m : Int32} (hwf : Wf S nc nt no) (hlt : nt < 8) : upd (upd (upd (wOf S nc nt no) (27 + 2 * nt + 0) m) (27 + 2 * nt + 1) (nI 0)) 1 (nI (nt + 1)) = wOf (taiS S nt m) nc (nt + 1) no := by
  obtain ⟨-, -, h0, -⟩ := hwf
  refine w_ext (fun j hj => ?_) (fun c x g1 g2 => ?_) (fun t x g1 g2 => ?_) (fun k x g1 g2 => ?_) (fun j hj => ?_)
  · rw [w_s hj]
    by_cases e : j = 1
    · subst e
      rw [upd_s]
      show nI (nt + 1) = S.1 1 + nI 1
      rw [h0, inM]
    · rw [upd_n _ e, upd_n _ (by omega), upd_n _ (by omega), w_s hj]
      revert e
      exact sc_all (P := fun j => j ≠ 1 → scO S j = scO (taiS S nt m) j) (fun _ => rfl) (fun h => absurd rfl h) (fun _ => rfl) (fun _ => rfl) (fun _ => rfl) (fun _ => rfl) (fun _ => rfl) (fun _ => rfl) (fun _ => rfl) j hj
  · rw [w_c g1 g2, upd_n _ (by omega), upd_n _ (by omega), upd_n _ (by omega), w_c g1 g2]
    rfl
  · rw [w_t g1 g2, upd_n _ (by omega)]
    by_cases e : t = nt
    · subst e
      rw [if_pos (by omega)]
      match x, g2 with
      | 0, _ => rw [upd_n _ (by omega), upd_s]; exact (upd_s _ _ _).symm
      | 1, _ => rw [upd_s]; exact (show nI 0 = (-1 : Int32) + nI 1 from by decide).trans (congrArg (· + nI 1) (upd_s _ _ _)).symm
    · rw [upd_n _ (by omega), upd_n _ (by omega), w_t g1 g2]
      by_cases hl : t < nt
      · rw [if_pos hl, if_pos (by omega)]
        match x, g2 with
        | 0, _ => exact (upd_n _ e).symm
        | 1, _ => exact congrArg (· + nI 1) (upd_n _ e).symm
      · rw [if_neg hl, if_neg (by omega)]
  · rw [w_m g1 g2, upd_n _ (by omega), upd_n _ (by omega), upd_n _ (by omega), w_m g1 g2]
    rfl
  · rw [upd_n _ (by omega), upd_n _ (by omega), upd_n _ (by omega), w_h hj, w_h hj]
/-- a motion more -/
theorem w_mot {kd mv ob kw : Int32} (hwf : Wf S nc nt no) (hlt : no < 8) (hkd : kdO kd = kw) : upd (upd (upd (upd (upd (upd (upd (upd (wOf S nc nt no) (43 + 6 * no + 0) (S.1 8)) (43 + 6 * no + 1) kw) (43 + 6 * no + 2) mv) (43 + 6 * no + 3) ob) (43 + 6 * no + 4) (nI 0)) (43 + 6 * no + 5) (nI 0)) 2 (nI (no + 1))) 3 (S.1 8 + nI 1) = wOf (motS S no kd mv ob) nc nt (no + 1) := by
  obtain ⟨-, -, -, -, h0, -⟩ := hwf
  refine w_ext (fun j hj => ?_) (fun c x g1 g2 => ?_) (fun t x g1 g2 => ?_) (fun k x g1 g2 => ?_) (fun j hj => ?_)
  · rw [w_s hj]
    by_cases e3 : j = 3
    · subst e3
      rw [upd_s]
      rfl
    · rw [upd_n _ e3]
      by_cases e : j = 2
      · subst e
        rw [upd_s]
        show nI (no + 1) = S.1 7 + nI 1
        rw [h0, inM]
      · rw [upd_n _ e, upd_n _ (by omega), upd_n _ (by omega), upd_n _ (by omega), upd_n _ (by omega), upd_n _ (by omega), upd_n _ (by omega), w_s hj]
        revert e e3
        exact sc_all (P := fun j => j ≠ 3 → j ≠ 2 → scO S j = scO (motS S no kd mv ob) j) (fun _ _ => rfl) (fun _ _ => rfl) (fun _ h => absurd rfl h) (fun h => absurd rfl h) (fun _ _ => rfl) (fun _ _ => rfl) (fun _ _ => rfl) (fun _ _ => rfl) (fun _ _ => rfl) j hj
  · rw [w_c g1 g2, upd_n _ (by omega), upd_n _ (by omega), upd_n _ (by omega), upd_n _ (by omega), upd_n _ (by omega), upd_n _ (by omega), upd_n _ (by omega), upd_n _ (by omega), w_c g1 g2]
    rfl
  · rw [w_t g1 g2, upd_n _ (by omega), upd_n _ (by omega), upd_n _ (by omega), upd_n _ (by omega), upd_n _ (by omega), upd_n _ (by omega), upd_n _ (by omega), upd_n _ (by omega), w_t g1 g2]
    rfl
  · rw [w_m g1 g2, upd_n _ (by omega), upd_n _ (by omega)]
    by_cases e : k = no
    · subst e
      rw [if_pos (by omega)]
      match x, g2 with
      | 0, _ => rw [upd_n _ (by omega), upd_n _ (by omega), upd_n _ (by omega), upd_n _ (by omega), upd_n _ (by omega), upd_s]; exact (upd_s _ _ _).symm
      | 1, _ => rw [upd_n _ (by omega), upd_n _ (by omega), upd_n _ (by omega), upd_n _ (by omega), upd_s]; exact (hkd ▸ congrArg kdO (upd_s _ _ _)).symm
      | 2, _ => rw [upd_n _ (by omega), upd_n _ (by omega), upd_n _ (by omega), upd_s]; exact (upd_s _ _ _).symm
      | 3, _ => rw [upd_n _ (by omega), upd_n _ (by omega), upd_s]; exact (upd_s _ _ _).symm
      | 4, _ => rw [upd_n _ (by omega), upd_s]; exact (show nI 0 = (-1 : Int32) + nI 1 from by decide).trans (congrArg (· + nI 1) (upd_s _ _ _)).symm
      | 5, _ => rw [upd_s]; exact (upd_s _ _ _).symm
    · rw [upd_n _ (by omega), upd_n _ (by omega), upd_n _ (by omega), upd_n _ (by omega), upd_n _ (by omega), upd_n _ (by omega), w_m g1 g2]
      by_cases hl : k < no
      · rw [if_pos hl, if_pos (by omega)]
        match x, g2 with
        | 0, _ => exact (upd_n _ e).symm
        | 1, _ => exact congrArg kdO (upd_n _ e).symm
        | 2, _ => exact (upd_n _ e).symm
        | 3, _ => exact (upd_n _ e).symm
        | 4, _ => exact congrArg (· + nI 1) (upd_n _ e).symm
        | 5, _ => exact (upd_n _ e).symm
      · rw [if_neg hl, if_neg (by omega)]
  · rw [upd_n _ (by omega), upd_n _ (by omega), upd_n _ (by omega), upd_n _ (by omega), upd_n _ (by omega), upd_n _ (by omega), upd_n _ (by omega), upd_n _ (by omega), w_h hj, w_h hj]
end WU
/-- numbers between two -/
def btw (x lo hi : Int32) : Int32 := if x < lo then nI 0 else if hi < x then nI 0 else nI 1
theorem add1_inj {x y : Int32} : x + nI 1 = y + nI 1 ↔ x = y := by
  constructor
  · intro h
    have h2 := congrArg (· - nI 1) h
    simpa [Int32.add_sub_cancel] using h2
  · intro h
    rw [h]
theorem add1_0 {x : Int32} : x + nI 1 = nI 0 ↔ x = -1 := by
  rw [show nI 0 = (-1 : Int32) + nI 1 from by decide]
  exact add1_inj
theorem i32_lt {x y : Int32} : ¬ x < y ↔ y ≤ x := Int32.not_lt
theorem i32_le {x y : Int32} : ¬ x ≤ y ↔ y < x := Int32.not_le
theorem btw_has {n : Nat} {c : Int32} (hn : n < 100000) : btw c (nI 0) (nI n - nI 1) = hasI n c := by
  have e : (nI n - nI 1).toInt = (n : Int) - 1 := pk_sub_toInt (by omega) (by decide)
  have e0 : (nI 0).toInt = 0 := rfl
  have e1 : (0 : Int32).toInt = 0 := rfl
  have e2 : (nI n).toInt = (n : Int) := nI_toInt (by omega)
  unfold btw hasI
  simp only [Int32.lt_iff_toInt_lt, Int32.le_iff_toInt_le, e, e0, e1, e2]
  by_cases h1 : c.toInt < 0
  · rw [if_pos h1, if_pos h1]
  · rw [if_neg h1, if_neg h1]
    by_cases h2 : (n : Int) ≤ c.toInt
    · rw [if_pos h2, if_pos (by omega)]
    · rw [if_neg h2, if_neg (by omega)]
theorem hasI_01 {n : Nat} {c : Int32} : hasI n c = nI 0 ∨ hasI n c = nI 1 := by
  unfold hasI
  split
  · exact Or.inl rfl
  · split
    · exact Or.inl rfl
    · exact Or.inr rfl
theorem bool_01 {x : Int32} (h : vp_nar .boolean x = x) : x = nI 0 ∨ x = nI 1 := by
  have h2 : x &&& 1 = x := h
  have h3 : x.toBitVec &&& 1#32 = x.toBitVec := congrArg (fun z => z.toBitVec) h2
  have h4 : x.toBitVec.toNat &&& 1 = x.toBitVec.toNat := by
    have := congrArg BitVec.toNat h3
    simpa using this
  rw [Nat.and_one_is_mod] at h4
  have h5 : x.toBitVec.toNat = 0 ∨ x.toBitVec.toNat = 1 := by omega
  rcases h5 with h | h
  · exact Or.inl (Int32.toBitVec_inj.mp (BitVec.eq_of_toNat_eq h))
  · exact Or.inr (Int32.toBitVec_inj.mp (BitVec.eq_of_toNat_eq h))
