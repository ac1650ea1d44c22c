section
/-! what a scavenge takes -/
def es_go (cut str val ver : Nat → Int32) (f i : Nat) : Prop := ¬ cut i = 0 ∨ ver i < es_cm cut str val (str i) f
def es_Rm (rm r : Nat → Int32) (P : Nat → Prop) : Prop := ∀ j, (r j = 0 ∨ r j = 1) ∧ (r j = 0 ↔ rm j = 0 ∧ ¬ P j)
theorem es_Rm_0 {rm : Nat → Int32} {P : Nat → Prop} (h : ∀ j, rm j = 0 ∨ rm j = 1) (hP : ∀ j, ¬ P j) : es_Rm rm rm P :=
  fun j => ⟨h j, fun z => ⟨z, hP j⟩, fun z => z.1⟩
theorem es_Rm_u {rm r r' : Nat → Int32} {P P' : Nat → Prop} (h : es_Rm rm r P) (h' : es_Rm rm r' P') (hP : ∀ j, P j ↔ P' j) : r = r' := by
  funext j
  obtain ⟨a1, a2⟩ := h j
  obtain ⟨b1, b2⟩ := h' j
  rw [hP j] at a2
  have e : r j = 0 ↔ r' j = 0 := a2.trans b2.symm
  rcases a1 with z | z
  · rw [z]; exact (e.mp z).symm
  · rcases b1 with w | w
    · rw [w]; exact e.mpr w
    · rw [z, w]
theorem es_Rm_i {rm r : Nat → Int32} {P P' : Nat → Prop} (h : es_Rm rm r P) (hP : ∀ j, P j ↔ P' j) : es_Rm rm r P' := by
  intro j
  obtain ⟨a1, a2⟩ := h j
  rw [hP j] at a2
  exact ⟨a1, a2⟩
/-- j0 goes -/
theorem es_Rm_a {rm r : Nat → Int32} {P P' : Nat → Prop} {j0 : Nat} (h : es_Rm rm r P) (hP : ∀ j, P' j ↔ (P j ∨ j = j0)) : es_Rm rm (upd r j0 1) P' := by
  intro j
  rw [hP j]
  by_cases e : j = j0
  · subst e
    rw [pk_us]
    exact ⟨Or.inr rfl, fun z => absurd z (by decide), fun z => absurd (Or.inr rfl) z.2⟩
  · rw [pk_un e]
    obtain ⟨a1, a2⟩ := h j
    refine ⟨a1, a2.trans ⟨fun z => ⟨z.1, fun w => ?_⟩, fun z => ⟨z.1, fun w => z.2 (Or.inl w)⟩⟩⟩
    rcases w with w | w
    · exact z.2 w
    · exact e w
/-- j0 is gone already -/
theorem es_Rm_g {rm r : Nat → Int32} {P P' : Nat → Prop} {j0 : Nat} (h : es_Rm rm r P) (h0 : ¬ r j0 = 0) (hP : ∀ j, P' j ↔ (P j ∨ j = j0)) : es_Rm rm r P' := by
  intro j
  rw [hP j]
  obtain ⟨a1, a2⟩ := h j
  refine ⟨a1, fun z => ⟨(a2.mp z).1, fun w => ?_⟩, fun z => a2.mpr ⟨z.1, fun w => z.2 (Or.inl w)⟩⟩
  rcases w with w | w
  · exact (a2.mp z).2 w
  · rw [w] at z; exact h0 z
theorem es_Rm_rc {rm r : Nat → Int32} {P : Nat → Prop} (h : es_Rm rm r P) : ∀ n, es_rc rm n ≤ es_rc r n := by
  intro n
  induction n with
  | zero => exact Nat.le_refl _
  | succ n ih =>
    rw [es_rc_s, es_rc_s]
    by_cases z : r n = 0
    · rw [if_pos z, if_pos ((h n).2.mp z).1]; exact ih
    · rw [if_neg z]
      split <;> omega
end
