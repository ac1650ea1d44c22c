section
/-! programs: what an instruction takes and gives, and what the check leaves known -/
def es_tk (o : Nat) : Nat := if o < 4 then 0 else if o < 8 then 2 else if o < 11 then 1 else if o = 12 then 1 else 0
def es_gv (o : Nat) : Nat := if o < 8 then 1 else if o = 8 then 2 else 0
def es_fit (o : Nat) (c : Int32) (i n : Nat) : Prop :=
  (o = 3 ∨ o = 9 → ∃ t, t < 2 ∧ c = nI t) ∧ (o = 10 ∨ o = 11 → ∃ t, i < t ∧ t ≤ n ∧ c = nI t) ∧ (o = 12 → ∃ t, t < 40 ∧ c = nI t)
/-- the instruction at i is met with height h, and its followers with what it leaves, or torn where tear allows -/
def es_Ins (n : Nat) (op wi M : Nat → Int32) (T : Prop) (i h : Nat) : Prop :=
  ∃ o, o < 14 ∧ op i = nI o ∧ es_fit o (wi i) i n ∧ es_tk o ≤ h ∧ h - es_tk o + es_gv o ≤ 4 ∧
    (∀ t, (o = 10 ∨ o = 11) → t ≤ n → wi i = nI t → M t = nI (h - es_tk o + es_gv o) ∨ (M t = -2 ∧ (T ∨ t = n))) ∧
    (o ≠ 11 → o ≠ 13 → M (i + 1) = nI (h - es_tk o + es_gv o) ∨ (M (i + 1) = -2 ∧ (T ∨ i + 1 = n)))
def es_OK (n : Nat) (op wi : Nat → Int32) : Prop :=
  ∃ M : Nat → Int32, M 0 = 0 ∧ ∀ i h, i < n → h ≤ 4 → M i = nI h → es_Ins n op wi M False i h
/-- as far as the check has come -/
def es_Chk (n i : Nat) (op wi M : Nat → Int32) : Prop :=
  M 0 = 0 ∧ (∀ j, j ≤ n → M j = -1 ∨ M j = -2 ∨ ∃ h, h ≤ 4 ∧ M j = nI h) ∧ (∀ j, j < i → ¬ M j = -2) ∧
  (∀ j h, j < i → h ≤ 4 → M j = nI h → es_Ins n op wi M True j h)
def es_met (M : Nat → Int32) (j b : Nat) : Nat → Int32 := upd M j (if M j = -1 then nI b else if M j = nI b then nI b else -2)
theorem es_m2n {h : Nat} (hh : h < 2 ^ 31) : ¬ (-2 : Int32) = nI h := by
  intro e
  have := nI_pos (n := h) hh
  rw [← e] at this
  exact this (by decide)
theorem es_m1n {h : Nat} (hh : h < 2 ^ 31) : ¬ (-1 : Int32) = nI h := by
  intro e
  have := nI_pos (n := h) hh
  rw [← e] at this
  exact this (by decide)
theorem es_met_o {M : Nat → Int32} {j b k : Nat} (h : k ≠ j) : es_met M j b k = M k := pk_un h
/-- at the place itself: met with b, or torn -/
theorem es_met_s {M : Nat → Int32} {j b : Nat} : es_met M j b j = nI b ∨ es_met M j b j = -2 := by
  unfold es_met
  rw [pk_us]
  split
  · exact Or.inl rfl
  · split
    · exact Or.inl rfl
    · exact Or.inr rfl
/-- what was met or torn stays so, or is torn -/
theorem es_met_k {M : Nat → Int32} {j b k h : Nat} (hh : h < 2 ^ 31) (hm : M k = nI h ∨ M k = -2) : es_met M j b k = nI h ∨ es_met M j b k = -2 := by
  by_cases e : k = j
  · subst e
    unfold es_met
    rw [pk_us]
    rcases hm with hm | hm
    · rw [if_neg (by rw [hm]; exact fun z => es_m1n hh z.symm)]
      split
      · rename_i z; rw [← z]; exact Or.inl hm
      · exact Or.inr rfl
    · rw [if_neg (by rw [hm]; decide)]
      split
      · rename_i z; rw [← z]; exact Or.inr hm
      · exact Or.inr rfl
  · rw [es_met_o e]; exact hm
theorem es_met_r {M : Nat → Int32} {j b n : Nat} (hb : b ≤ 4) (h : ∀ k, k ≤ n → M k = -1 ∨ M k = -2 ∨ ∃ h, h ≤ 4 ∧ M k = nI h) : ∀ k, k ≤ n → es_met M j b k = -1 ∨ es_met M j b k = -2 ∨ ∃ h, h ≤ 4 ∧ es_met M j b k = nI h := by
  intro k hk
  by_cases e : k = j
  · subst e
    rcases es_met_s (M := M) (j := k) (b := b) with z | z
    · exact Or.inr (Or.inr ⟨b, hb, z⟩)
    · exact Or.inr (Or.inl z)
  · rw [es_met_o e]; exact h k hk
/-- a further meeting ahead keeps what is known of an instruction -/
theorem es_Ins_met {n j b i h : Nat} {op wi M : Nat → Int32} (hh : h ≤ 4) (H : es_Ins n op wi M True i h) : es_Ins n op wi (es_met M j b) True i h := by
  obtain ⟨o, h1, h2, h3, h4, h5, h6, h7⟩ := H
  refine ⟨o, h1, h2, h3, h4, h5, fun t g1 g2 g3 => ?_, fun g1 g2 => ?_⟩
  · have := h6 t g1 g2 g3
    rcases es_met_k (j := j) (b := b) (h := h - es_tk o + es_gv o) (by omega) (this.imp id And.left) with z | z
    · exact Or.inl z
    · exact Or.inr ⟨z, Or.inl trivial⟩
  · have := h7 g1 g2
    rcases es_met_k (j := j) (b := b) (h := h - es_tk o + es_gv o) (by omega) (this.imp id And.left) with z | z
    · exact Or.inl z
    · exact Or.inr ⟨z, Or.inl trivial⟩
theorem es_Chk_met {n i j b : Nat} {op wi M : Nat → Int32} (hb : b ≤ 4) (hj : i ≤ j) (h0 : 0 < j) (H : es_Chk n i op wi M) : es_Chk n i op wi (es_met M j b) := by
  obtain ⟨h1, h2, h3, h4⟩ := H
  refine ⟨?_, es_met_r hb h2, fun k hk => ?_, fun k h hk hh e => ?_⟩
  · rw [es_met_o (by omega)]; exact h1
  · rw [es_met_o (by omega)]; exact h3 k hk
  · rw [es_met_o (by omega)] at e
    exact es_Ins_met hh (h4 k h hk hh e)
/-- an instruction that is not met -/
theorem es_Chk_un {n i : Nat} {op wi M : Nat → Int32} (H : es_Chk n i op wi M) (e : M i = -1) : es_Chk n (i + 1) op wi M := by
  obtain ⟨h1, h2, h3, h4⟩ := H
  refine ⟨h1, h2, fun k hk => ?_, fun k h hk hh z => ?_⟩
  · by_cases g : k = i
    · rw [g, e]; decide
    · exact h3 k (by omega)
  · by_cases g : k = i
    · rw [g, e] at z
      exact absurd z (es_m1n (by omega))
    · exact h4 k h (by omega) hh z
/-- an instruction that is met, after its followers have been met too -/
theorem es_Chk_in {n i h : Nat} {op wi M : Nat → Int32} (H : es_Chk n i op wi M) (e : M i = nI h) (hh : h ≤ 4) (hI : es_Ins n op wi M True i h) : es_Chk n (i + 1) op wi M := by
  obtain ⟨h1, h2, h3, h4⟩ := H
  refine ⟨h1, h2, fun k hk => ?_, fun k h' hk hh' z => ?_⟩
  · by_cases g : k = i
    · rw [g, e]; exact fun z => es_m2n (by omega) z.symm
    · exact h3 k (by omega)
  · by_cases g : k = i
    · subst g
      rw [e] at z
      have := es_inj z (by omega) (by omega)
      subst this
      exact hI
    · exact h4 k h' (by omega) hh' z
theorem es_Chk_end {n : Nat} {op wi M : Nat → Int32} (H : es_Chk n n op wi M) : es_OK n op wi := by
  obtain ⟨h1, h2, h3, h4⟩ := H
  refine ⟨M, h1, fun i h hi hh e => ?_⟩
  obtain ⟨o, g1, g2, g3, g4, g5, g6, g7⟩ := h4 i h hi hh e
  refine ⟨o, g1, g2, g3, g4, g5, fun t a1 a2 a3 => ?_, fun a1 a2 => ?_⟩
  · rcases g6 t a1 a2 a3 with z | z
    · exact Or.inl z
    · by_cases w : t = n
      · exact Or.inr ⟨z.1, Or.inr w⟩
      · exact absurd z.1 (h3 t (by omega))
  · rcases g7 a1 a2 with z | z
    · exact Or.inl z
    · by_cases w : i + 1 = n
      · exact Or.inr ⟨z.1, Or.inr w⟩
      · exact absurd z.1 (h3 (i + 1) (by omega))
/-- a copy of the program has the same -/
theorem es_OK_c {n : Nat} {op wi op' wi' : Nat → Int32} (H : es_OK n op wi) (h : ∀ i, i < n → op' i = op i ∧ wi' i = wi i) : es_OK n op' wi' := by
  obtain ⟨M, h1, h2⟩ := H
  refine ⟨M, h1, fun i h' hi hh e => ?_⟩
  obtain ⟨o, g1, g2, g3, g4, g5, g6, g7⟩ := h2 i h' hi hh e
  rw [← (h i hi).1] at g2
  rw [← (h i hi).2] at g3 g6
  exact ⟨o, g1, g2, g3, g4, g5, g6, g7⟩
end
