section
/-! copies of a row of cells; a projection's states -/
def es_cpy (a : Nat → Int32) (t s n : Nat) : Nat → Int32 := fun j => if t ≤ j ∧ j < t + n then a (s + (j - t)) else a j
theorem es_cpy_0 {a : Nat → Int32} {t s : Nat} : es_cpy a t s 0 = a := by
  funext j
  simp only [es_cpy]
  rw [if_neg (by omega)]
theorem es_cpy_s {a : Nat → Int32} {t s i : Nat} (h : s + i < t ∨ t + i ≤ s + i) : upd (es_cpy a t s i) (t + i) (es_cpy a t s i (s + i)) = es_cpy a t s (i + 1) := by
  funext j
  by_cases e : j = t + i
  · subst e
    rw [pk_us]
    simp only [es_cpy]
    rw [if_neg (by omega), if_pos (by omega), show t + i - t = i by omega]
  · rw [pk_un e]
    simp only [es_cpy]
    by_cases z : t ≤ j ∧ j < t + i
    · rw [if_pos z, if_pos (by omega)]
    · rw [if_neg z, if_neg (by omega)]
theorem es_cpy_i {a : Nat → Int32} {t s n i : Nat} (h : i < n) : es_cpy a t s n (t + i) = a (s + i) := by
  simp only [es_cpy]
  rw [if_pos (by omega), show t + i - t = i by omega]
theorem es_cpy_o {a : Nat → Int32} {t s n j : Nat} (h : j < t ∨ t + n ≤ j) : es_cpy a t s n j = a j := if_neg (by omega)
/-- row r of the states: r = 3 * kind + p -/
def es_Eq (b : Nat) (st po ce : Nat → Int32) (r : Nat) : Prop :=
  (∃ a, a ≤ b ∧ st (11 * r + 10) = nI a ∧ po r = nI a) ∧ ∀ k, k < 10 → st (11 * r + k) = ce (10 * r + k)
theorem es_Eq_m {b b' r : Nat} {st po ce : Nat → Int32} (H : es_Eq b st po ce r) (h : b ≤ b') : es_Eq b' st po ce r := by
  obtain ⟨⟨a, ha, e⟩, h2⟩ := H
  exact ⟨⟨a, by omega, e⟩, h2⟩
theorem es_Eq_c {b r : Nat} {st po ce st' po' ce' : Nat → Int32} (H : es_Eq b st po ce r) (h1 : ∀ k, k < 11 → st' (11 * r + k) = st (11 * r + k)) (h2 : po' r = po r) (h3 : ∀ k, k < 10 → ce' (10 * r + k) = ce (10 * r + k)) : es_Eq b st' po' ce' r := by
  obtain ⟨⟨a, ha, e1, e2⟩, h⟩ := H
  refine ⟨⟨a, ha, ?_, ?_⟩, fun k hk => ?_⟩
  · rw [h1 10 (by omega)]; exact e1
  · rw [h2]; exact e2
  · rw [h1 k (by omega), h3 k hk]; exact h k hk
/-- a copy from row s to row t -/
theorem es_Eq_t {b s t : Nat} {st po ce : Nat → Int32} (H : es_Eq b st po ce s) : es_Eq b (es_cpy st (11 * t) (11 * s) 11) (upd po t (po s)) (es_cpy ce (10 * t) (10 * s) 10) t := by
  obtain ⟨⟨a, ha, e1, e2⟩, h⟩ := H
  refine ⟨⟨a, ha, ?_, ?_⟩, fun k hk => ?_⟩
  · rw [es_cpy_i (by omega)]; exact e1
  · rw [pk_us]; exact e2
  · rw [es_cpy_i (by omega), es_cpy_i hk]; exact h k hk
theorem es_Eq_o {b s t r : Nat} {st po ce : Nat → Int32} (H : es_Eq b st po ce r) (h : r ≠ t) : es_Eq b (es_cpy st (11 * t) (11 * s) 11) (upd po t (po s)) (es_cpy ce (10 * t) (10 * s) 10) r :=
  es_Eq_c H (fun k hk => es_cpy_o (by omega)) (pk_un h) (fun k hk => es_cpy_o (by omega))
theorem es_Eq_ox {b s t r : Nat} {st po ce : Nat → Int32} (H : es_Eq b st po ce r) (h : r ≠ t) : es_Eq b (es_cpy st (11 * t) (11 * s) 11) po ce r :=
  es_Eq_c H (fun k hk => es_cpy_o (by omega)) rfl (fun k hk => rfl)
theorem es_Eq_oy {b s t r : Nat} {st po ce : Nat → Int32} (H : es_Eq b st po ce r) (h : r ≠ t) : es_Eq b st (upd po t (po s)) (es_cpy ce (10 * t) (10 * s) 10) r :=
  es_Eq_c H (fun k hk => rfl) (pk_un h) (fun k hk => es_cpy_o (by omega))
/-- what the two hold of the projections; L: the lengths of the programs -/
def es_St (c f : Nat) (L : Nat → Nat) (st xn po ce yn : Nat → Int32) : Prop :=
  ∀ p, p < 3 → 0 < L p → es_Eq c st po ce p ∧ es_Eq f st po ce (3 + p) ∧ (xn p = 0 ↔ yn p = 0) ∧ (¬ xn p = 0 → es_Eq c st po ce (6 + p))
theorem es_St_m {c f c' : Nat} {L : Nat → Nat} {st xn po ce yn : Nat → Int32} (H : es_St c f L st xn po ce yn) (h : c ≤ c') : es_St c' f L st xn po ce yn := by
  intro p hp hl
  obtain ⟨a, b, d, e⟩ := H p hp hl
  exact ⟨es_Eq_m a h, b, d, fun z => es_Eq_m (e z) h⟩
end
