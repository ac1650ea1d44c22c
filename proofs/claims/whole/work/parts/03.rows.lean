section
/-! rows of entries: delete a place, make a place -/
def es_del (r : Nat → Int32) (a b : Nat) : Nat → Int32 := fun j => if a ≤ j ∧ j < b then r (j + 1) else r j
def es_ins (r : Nat → Int32) (a b : Nat) : Nat → Int32 := fun j => if a < j ∧ j ≤ b then r (j - 1) else r j
theorem es_del_0 {r : Nat → Int32} {a b : Nat} (h : b ≤ a) : es_del r a b = r := by
  funext j
  simp only [es_del]
  rw [if_neg (by omega)]
theorem es_del_s {r : Nat → Int32} {a b : Nat} (h : a ≤ b) : upd (es_del r a b) b (es_del r a b (b + 1)) = es_del r a (b + 1) := by
  funext j
  by_cases e : j = b
  · subst e
    rw [pk_us]
    simp only [es_del]
    rw [if_neg (by omega), if_pos (by omega)]
  · rw [pk_un e]
    simp only [es_del]
    by_cases z : a ≤ j ∧ j < b
    · rw [if_pos z, if_pos (by omega)]
    · rw [if_neg z, if_neg (by omega)]
theorem es_del_i {r : Nat → Int32} {a b j : Nat} (h1 : a ≤ j) (h2 : j < b) : es_del r a b j = r (j + 1) := if_pos ⟨h1, h2⟩
theorem es_del_o {r : Nat → Int32} {a b j : Nat} (h : j < a ∨ b ≤ j) : es_del r a b j = r j := if_neg (by omega)
theorem es_ins_0 {r : Nat → Int32} {a b : Nat} (h : b ≤ a) : es_ins r a b = r := by
  funext j
  simp only [es_ins]
  rw [if_neg (by omega)]
/-- the shift runs downward: what is above a is moved already -/
theorem es_ins_s {r : Nat → Int32} {a b : Nat} (h : a ≤ b) (h0 : 0 < a) : upd (es_ins r a b) a (es_ins r a b (a - 1)) = es_ins r (a - 1) b := by
  funext j
  by_cases e : j = a
  · subst e
    rw [pk_us]
    simp only [es_ins]
    rw [if_neg (by omega), if_pos (by omega)]
  · rw [pk_un e]
    simp only [es_ins]
    by_cases z : a < j ∧ j ≤ b
    · rw [if_pos z, if_pos (by omega)]
    · rw [if_neg z, if_neg (by omega)]
theorem es_ins_i {r : Nat → Int32} {a b j : Nat} (h1 : a < j) (h2 : j ≤ b) : es_ins r a b j = r (j - 1) := if_pos ⟨h1, h2⟩
theorem es_ins_o {r : Nat → Int32} {a b j : Nat} (h : j ≤ a ∨ b < j) : es_ins r a b j = r j := if_neg (by omega)

/-- the rows of one group: bx, by: where a row begins on each side; n: how long; below lim -/
def es_Row (bx by_ n lim : Nat) (rp rt wh oft : Nat → Int32) : Prop :=
  ∀ i, i < n → (∃ a, a < lim ∧ rp (bx + i) = nI a) ∧ wh (by_ + i) = rp (bx + i) ∧ oft (by_ + i) = rt (bx + i)
def es_Due (bx by_ n : Nat) (rd du : Nat → Int32) : Prop := ∀ i, i < n → du (by_ + i) = rd (bx + i)
/-- no two the same, in one row and over two -/
def es_Dis (b n : Nat) (rp : Nat → Int32) : Prop := ∀ i j, i < n → j < n → rp (b + i) = rp (b + j) → i = j
def es_Di2 (b n b' n' : Nat) (rp : Nat → Int32) : Prop := ∀ i j, i < n → j < n' → ¬ rp (b + i) = rp (b' + j)
def es_Srt (b n : Nat) (rp : Nat → Int32) : Prop := ∀ i j, i < j → j < n → rp (b + i) < rp (b + j)
theorem es_Row_m {bx by_ n lim lim' : Nat} {rp rt wh oft : Nat → Int32} (H : es_Row bx by_ n lim rp rt wh oft) (h : lim ≤ lim') : es_Row bx by_ n lim' rp rt wh oft := by
  intro i hi
  obtain ⟨⟨a, ha, e⟩, h2⟩ := H i hi
  exact ⟨⟨a, by omega, e⟩, h2⟩
theorem es_Row_c {bx by_ n lim : Nat} {rp rt wh oft rp' rt' wh' oft' : Nat → Int32} (H : es_Row bx by_ n lim rp rt wh oft)
    (h1 : ∀ i, i < n → rp' (bx + i) = rp (bx + i) ∧ rt' (bx + i) = rt (bx + i) ∧ wh' (by_ + i) = wh (by_ + i) ∧ oft' (by_ + i) = oft (by_ + i)) : es_Row bx by_ n lim rp' rt' wh' oft' := by
  intro i hi
  obtain ⟨e1, e2, e3, e4⟩ := h1 i hi
  rw [e1, e2, e3, e4]
  exact H i hi
theorem es_Row_d {bx by_ n lim k : Nat} {rp rt wh oft : Nat → Int32} (H : es_Row bx by_ n lim rp rt wh oft) (hk : k < n) :
    es_Row bx by_ (n - 1) lim (es_del rp (bx + k) (bx + (n - 1))) (es_del rt (bx + k) (bx + (n - 1))) (es_del wh (by_ + k) (by_ + (n - 1))) (es_del oft (by_ + k) (by_ + (n - 1))) := by
  intro i hi
  by_cases z : i < k
  · rw [es_del_o (by omega), es_del_o (by omega), es_del_o (by omega), es_del_o (by omega)]
    exact H i (by omega)
  · rw [es_del_i (by omega) (by omega), es_del_i (by omega) (by omega), es_del_i (by omega) (by omega), es_del_i (by omega) (by omega)]
    exact H (i + 1) (by omega)
theorem es_Due_d {bx by_ n k : Nat} {rd du : Nat → Int32} (H : es_Due bx by_ n rd du) (hk : k < n) : es_Due bx by_ (n - 1) (es_del rd (bx + k) (bx + (n - 1))) (es_del du (by_ + k) (by_ + (n - 1))) := by
  intro i hi
  by_cases z : i < k
  · rw [es_del_o (by omega), es_del_o (by omega)]
    exact H i (by omega)
  · rw [es_del_i (by omega) (by omega), es_del_i (by omega) (by omega)]
    exact H (i + 1) (by omega)
/-- where the place i of a row lay before a delete -/
theorem es_del_w {b n k : Nat} (rp : Nat → Int32) (hk : k < n) (i : Nat) (hi : i < n - 1) : ∃ i', i' < n ∧ i' ≠ k ∧ (i < k → i' = i) ∧ (k ≤ i → i' = i + 1) ∧ es_del rp (b + k) (b + (n - 1)) (b + i) = rp (b + i') := by
  by_cases z : i < k
  · exact ⟨i, by omega, by omega, fun _ => rfl, fun _ => by omega, es_del_o (by omega)⟩
  · exact ⟨i + 1, by omega, by omega, fun _ => by omega, fun _ => rfl, es_del_i (by omega) (by omega)⟩
theorem es_Dis_d {b n k : Nat} {rp : Nat → Int32} (H : es_Dis b n rp) (hk : k < n) : es_Dis b (n - 1) (es_del rp (b + k) (b + (n - 1))) := by
  intro i j hi hj e
  obtain ⟨i', a1, a2, a3, a4, a5⟩ := es_del_w (b := b) rp hk i hi
  obtain ⟨j', b1, b2, b3, b4, b5⟩ := es_del_w (b := b) rp hk j hj
  rw [a5, b5] at e
  have := H i' j' a1 b1 e
  omega
theorem es_Dis_c {b n : Nat} {rp rp' : Nat → Int32} (H : es_Dis b n rp) (h : ∀ i, i < n → rp' (b + i) = rp (b + i)) : es_Dis b n rp' := by
  intro i j hi hj e
  rw [h i hi, h j hj] at e
  exact H i j hi hj e
theorem es_Di2_c {b n b' n' : Nat} {rp rp' : Nat → Int32} (H : es_Di2 b n b' n' rp) (h : ∀ i, i < n → rp' (b + i) = rp (b + i)) (h' : ∀ i, i < n' → rp' (b' + i) = rp (b' + i)) : es_Di2 b n b' n' rp' := by
  intro i j hi hj e
  rw [h i hi, h' j hj] at e
  exact H i j hi hj e
theorem es_Srt_c {b n : Nat} {rp rp' : Nat → Int32} (H : es_Srt b n rp) (h : ∀ i, i < n → rp' (b + i) = rp (b + i)) : es_Srt b n rp' := by
  intro i j hi hj
  rw [h i (by omega), h j hj]
  exact H i j hi hj
theorem es_upc {f : Nat → Int32} {a b : Nat} {x y : Int32} (h : a ≠ b) : upd (upd f a x) b y = upd (upd f b y) a x := by
  funext j
  by_cases e : j = b
  · subst e
    rw [pk_us, pk_un (fun z => h z.symm), pk_us]
  · rw [pk_un e]
    by_cases g : j = a
    · subst g; rw [pk_us, pk_us]
    · rw [pk_un g, pk_un g, pk_un e]
theorem es_del_u {r : Nat → Int32} {a b w : Nat} {x : Int32} (h : b < w) : es_del (upd r w x) a b = upd (es_del r a b) w x := by
  funext j
  by_cases e : j = w
  · subst e
    rw [pk_us, es_del_o (by omega), pk_us]
  · rw [pk_un e]
    by_cases z : a ≤ j ∧ j < b
    · rw [es_del_i z.1 z.2, es_del_i z.1 z.2, pk_un (by omega)]
    · rw [es_del_o (by omega), es_del_o (by omega), pk_un e]
end
