/-! COMMANDS CARRIED OUT -/
abbrev Sg : Type := St × Nat × Nat × Nat
def xF (σ : Sg) (kind : Nat) (p0 p1 : Int32) : Int32 := match kind with
  | 0 => comF σ.1 p0
  | 1 => taiF σ.1 p0
  | 2 => payF σ.1 σ.2.1 p0 p1
  | 3 => lauF σ.1 σ.2.1 p0
  | 4 => tmoF σ.1 σ.2.1 σ.2.2.1 p0 p1
  | 5 => tmoF σ.1 σ.2.1 σ.2.2.1 p0 p1
  | 6 => gmoF σ.1 σ.2.1 p0 p1
  | 7 => secF σ.1 σ.2.1 σ.2.2.2 p0 p1
  | 8 => untF σ.1 σ.2.2.2 p0
  | 9 => witF σ.1 σ.2.2.2 p0
  | 10 => votF σ.1 σ.2.2.2 p0
  | 11 => gusF p0
  | _ => pasF p0
def slK (S : St) (no : Nat) (id : Int32) : Nat := match slotO S no id with
  | some k => k
  | none => 0
def xD (σ : Sg) (kind : Nat) (p0 p1 : Int32) : Sg := match kind with
  | 0 => (comS σ.1 σ.2.1 p0, σ.2.1 + 1, σ.2.2.1, σ.2.2.2)
  | 1 => (taiS σ.1 σ.2.2.1 p0, σ.2.1, σ.2.2.1 + 1, σ.2.2.2)
  | 2 => (payS σ.1 p0.toNatClampNeg p1, σ.2)
  | 3 => (flyS σ.1 p0.toNatClampNeg, σ.2)
  | 4 => (motS σ.1 σ.2.2.2 (nI 114) p0 p1, σ.2.1, σ.2.2.1, σ.2.2.2 + 1)
  | 5 => (motS σ.1 σ.2.2.2 (nI 116) p0 p1, σ.2.1, σ.2.2.1, σ.2.2.2 + 1)
  | 6 => (motS σ.1 σ.2.2.2 (nI 103) p0 p1, σ.2.1, σ.2.2.1, σ.2.2.2 + 1)
  | 7 => (sedS σ.1 (slK σ.1 σ.2.2.2 p1) p0, σ.2)
  | 8 => (untS σ.1 (slK σ.1 σ.2.2.2 p0) (σ.1.2 9 (slK σ.1 σ.2.2.2 p0)).toNatClampNeg, σ.2)
  | 9 => (cloS σ.1 σ.2.2.2 (slK σ.1 σ.2.2.2 p0), σ.2.1, σ.2.2.1, σ.2.2.2 - 1)
  | 10 => (votS σ.1 σ.2.1 σ.2.2.1 σ.2.2.2 (slK σ.1 σ.2.2.2 p0) (σ.1.2 9 (slK σ.1 σ.2.2.2 p0)).toNatClampNeg (σ.1.2 10 (slK σ.1 σ.2.2.2 p0)).toNatClampNeg, σ.2.1, σ.2.2.1, σ.2.2.2 - 1)
  | 11 => ((gusS σ.1 σ.2.2.1 σ.2.2.2 p0).1, σ.2)
  | _ => ((pasS σ.1 σ.2.2.1 σ.2.1 p0.toNatClampNeg).1, σ.2)
def OkS (σ : Sg) (B : Nat) : Prop := Ok σ.1 σ.2.1 σ.2.2.1 σ.2.2.2 B
theorem slK_e {S : St} {no k : Nat} {id : Int32} (h : slotO S no id = some k) : slK S no id = k := by
  unfold slK
  rw [h]
theorem gusF_0 {s : Int32} (h : gusF s = 0) : ∃ x, x ≤ 20 ∧ s = nI x := by
  rw [gusF_m] at h
  by_cases h1 : btw s (nI 0) (nI 20) = 0
  · rw [if_pos h1] at h
    exact absurd h (by decide)
  · obtain ⟨m, -, h2, h3⟩ := btw_ix (by decide) (by decide) h1
    exact ⟨m, h2, h3⟩
theorem pasF_0 {s : Int32} (h : pasF s = 0) : ∃ x, 1 ≤ x ∧ x ≤ 12 ∧ s = nI x := by
  rw [pasF_m] at h
  by_cases h1 : btw s (nI 1) (nI 12) = 0
  · rw [if_pos h1] at h
    exact absurd h (by decide)
  · exact btw_ix (by decide) (by decide) h1
theorem OkS.mot {σ : Sg} {B : Nat} (h : OkS σ B) {k : Nat} {id : Int32} (ho : slotO σ.1 σ.2.2.2 id = some k) : ∃ a o, k < σ.2.2.2 ∧ a < σ.2.1 ∧ σ.1.2 9 k = nI a ∧ (σ.1.2 9 k).toNatClampNeg = a ∧ ObjOk σ.1 σ.2.1 σ.2.2.1 k o ∧ (σ.1.2 10 k).toNatClampNeg = o := by
  obtain ⟨hk, -⟩ := slotO_lt ho
  obtain ⟨a, o, h1, h2, h3⟩ := h.2.2.2.2.2.1 k hk
  have hnc := h.1.2.1
  have hnt := h.1.2.2.2.1
  have ho8 : o < 100 := by rcases h3.2 with ⟨-, h⟩ | ⟨-, h⟩ | ⟨-, h⟩ <;> omega
  exact ⟨a, o, hk, h1, h2, by rw [h2]; exact nI_clamp (by omega), h3, by rw [h3.1]; exact nI_clamp (by omega)⟩
theorem OkS.xD {σ : Sg} {B : Nat} (h : OkS σ B) (hB : B < 2 ^ 28) {kind : Nat} {p0 p1 : Int32} (hF : xF σ kind p0 p1 = 0) : OkS (xD σ kind p0 p1) (B + 1000) := by
  have hnc := h.1.2.1
  unfold OkS
  match kind, hF with
  | 0, hF => exact (Ok.com h hF).mono (by omega)
  | 1, hF => exact (Ok.tai h hF).mono (by omega)
  | 2, hF =>
    obtain ⟨j, y, hj, rfl, hy1, hy2, rfl, hle⟩ := payF_0 hnc hF
    show Ok (payS σ.1 (nI j).toNatClampNeg (nI y)) _ _ _ _
    rw [nI_clamp (by omega)]
    exact (Ok.pay h (by omega) hj hy2 hle).mono (by omega)
  | 3, hF => exact (Ok.fly h).mono (by omega)
  | 4, hF =>
    obtain ⟨hlt, ⟨j, hj, rfl⟩, o, ho, rfl⟩ := tmoF_0 h.1 hF
    exact (Ok.mot h hlt hj (Or.inl ⟨rfl, ho⟩)).mono (by omega)
  | 5, hF =>
    obtain ⟨hlt, ⟨j, hj, rfl⟩, o, ho, rfl⟩ := tmoF_0 h.1 hF
    exact (Ok.mot h hlt hj (Or.inr (Or.inl ⟨rfl, ho⟩))).mono (by omega)
  | 6, hF =>
    obtain ⟨hlt, ⟨j, hj, rfl⟩, o, ho, rfl⟩ := gmoF_0 h.1 hF
    exact (Ok.mot h hlt hj (Or.inr (Or.inr ⟨rfl, ho⟩))).mono (by omega)
  | 7, hF =>
    obtain ⟨⟨j, hj, rfl⟩, k, ho⟩ := secF_0 hnc hF
    exact (Ok.sed h hj).mono (by omega)
  | 8, hF =>
    obtain ⟨k, ho⟩ := untF_0 hF
    obtain ⟨a, o, hk, ha, e1, e2, -, -⟩ := h.mot ho
    show Ok (untS σ.1 (slK σ.1 σ.2.2.2 p0) (σ.1.2 9 (slK σ.1 σ.2.2.2 p0)).toNatClampNeg) _ _ _ _
    rw [slK_e ho, e2]
    exact (Ok.unt h ha).mono (by omega)
  | 9, hF =>
    obtain ⟨k, ho⟩ := witF_0 hF
    obtain ⟨a, o, hk, -⟩ := h.mot ho
    show Ok (cloS σ.1 σ.2.2.2 (slK σ.1 σ.2.2.2 p0)) _ _ _ _
    rw [slK_e ho]
    exact (Ok.clo h hk).mono (by omega)
  | 10, hF =>
    obtain ⟨k, ho⟩ := votF_0 hF
    obtain ⟨a, o, hk, ha, e1, e2, e3, e4⟩ := h.mot ho
    show Ok (votS σ.1 σ.2.1 σ.2.2.1 σ.2.2.2 (slK σ.1 σ.2.2.2 p0) (σ.1.2 9 (slK σ.1 σ.2.2.2 p0)).toNatClampNeg (σ.1.2 10 (slK σ.1 σ.2.2.2 p0)).toNatClampNeg) _ _ _ _
    rw [slK_e ho, e2, e4]
    exact (Ok.vot h hk ha e3).mono (by omega)
  | 11, hF => exact (Ok.gus h).mono (by omega)
  | n + 12, hF =>
    obtain ⟨x, hx1, hx, rfl⟩ := pasF_0 (show pasF p0 = 0 from hF)
    show Ok (pasS σ.1 σ.2.2.1 σ.2.1 (nI x).toNatClampNeg).1 _ _ _ _
    rw [nI_clamp (by omega)]
    exact (Ok.pas h x).mono (by omega)
/-- numbers that a command doesn't have don't matter -/
theorem xF_irr {σ : Sg} {kind : Nat} {p0 x y : Int32} (h13 : kind < 13) (h : arN kind = 1) : xF σ kind p0 x = xF σ kind p0 y := by
  have h2 : ¬ (kind = 2 ∨ kind = 4 ∨ kind = 5 ∨ kind = 6 ∨ kind = 7) := fun z => by
    unfold arN at h
    rw [if_pos z] at h
    omega
  match kind, h2 with
  | 0, _ => simp only [xF]
  | 1, _ => simp only [xF]
  | 3, _ => simp only [xF]
  | 8, _ => simp only [xF]
  | 9, _ => simp only [xF]
  | 10, _ => simp only [xF]
  | 11, _ => simp only [xF]
  | n + 12, _ => simp only [xF]
  | 2, h => exact absurd (by decide) h
  | 4, h => exact absurd (by decide) h
  | 5, h => exact absurd (by decide) h
  | 6, h => exact absurd (by decide) h
  | 7, h => exact absurd (by decide) h
theorem xD_irr {σ : Sg} {kind : Nat} {p0 x y : Int32} (h13 : kind < 13) (h : arN kind = 1) : xD σ kind p0 x = xD σ kind p0 y := by
  have h2 : ¬ (kind = 2 ∨ kind = 4 ∨ kind = 5 ∨ kind = 6 ∨ kind = 7) := fun z => by
    unfold arN at h
    rw [if_pos z] at h
    omega
  match kind, h2 with
  | 0, _ => rfl | 1, _ => rfl | 3, _ => rfl | 8, _ => rfl | 9, _ => rfl | 10, _ => rfl | 11, _ => rfl
  | n + 12, _ => rfl
  | 2, h => exact absurd (by decide) h
  | 4, h => exact absurd (by decide) h
  | 5, h => exact absurd (by decide) h
  | 6, h => exact absurd (by decide) h
  | 7, h => exact absurd (by decide) h
def xFL (σ : Sg) (c : Nat × List Nat) : Int32 := xF σ c.1 (nI (c.2.getD 0 0)) (nI (c.2.getD 1 0))
def xDL (σ : Sg) (c : Nat × List Nat) : Sg := xD σ c.1 (nI (c.2.getD 0 0)) (nI (c.2.getD 1 0))
/-- a list of commands: the state behind, how many were done, the fault of the one that fails -/
def exL : List (Nat × List Nat) → Sg → Nat → Sg × Nat × Int32
  | [], σ, i => (σ, i, nI 0)
  | c :: cs, σ, i => if xFL σ c = 0 then exL cs (xDL σ c) (i + 1) else (σ, i, xFL σ c)
theorem exL_ok : ∀ (cs : List (Nat × List Nat)) (σ : Sg) (i B : Nat), OkS σ B → B + 1000 * cs.length < 2 ^ 28 → OkS (exL cs σ i).1 (B + 1000 * cs.length)
  | [], σ, i, B, h, _ => h
  | c :: cs, σ, i, B, h, hB => by
    rw [List.length_cons] at hB ⊢
    show OkS (if xFL σ c = 0 then exL cs (xDL σ c) (i + 1) else (σ, i, xFL σ c)).1 _
    by_cases h0 : xFL σ c = 0
    · rw [if_pos h0]
      have := exL_ok cs (xDL σ c) (i + 1) (B + 1000) (h.xD (by omega) h0) (by omega)
      exact Ok.mono this (by omega)
    · rw [if_neg h0]
      exact Ok.mono h (by omega)
theorem pay_of {l : Ln} {a : Nat} (h : (cmdM l a).1 = true) {N : Nat → Int32} (hN : ∀ q, q < (cmdM l a).2.2.2.length → N q = nI ((cmdM l a).2.2.2.getD q 0)) (σ : Sg) : xF σ (cmdM l a).2.2.1 (N 0) (N 1) = xFL σ ((cmdM l a).2.2.1, (cmdM l a).2.2.2) ∧ xD σ (cmdM l a).2.2.1 (N 0) (N 1) = xDL σ ((cmdM l a).2.2.1, (cmdM l a).2.2.2) := by
  obtain ⟨h13, hlen⟩ := cm_len h
  have h1 : 1 ≤ arN (cmdM l a).2.2.1 := by unfold arN; split <;> omega
  have e0 := hN 0 (by omega)
  unfold xFL xDL
  rw [e0]
  by_cases h2 : arN (cmdM l a).2.2.1 = 1
  · exact ⟨xF_irr h13 h2, xD_irr h13 h2⟩
  · have e1 := hN 1 (by have := arN_le (cmdM l a).2.2.1; omega)
    rw [e1]
    exact ⟨rfl, rfl⟩
