section
/-! an entry comes into a sorted row -/
theorem es_ntri {a b : Int32} (h : ¬ a < b) (e : ¬ a = b) : b < a := by
  rw [es_lt_iff] at *
  have : ¬ a.toInt = b.toInt := fun z => e (Int32.toInt_inj.mp z)
  omega
theorem es_ltne {a b : Int32} (h : a < b) : ¬ a = b := fun e => by rw [e] at h; exact es_ltirr h
theorem es_ltas {a b : Int32} (h : a < b) : ¬ b < a := fun g => es_ltirr (es_lttr h g)
/-- the place where a belongs -/
theorem es_place {b n : Nat} {rp : Nat → Int32} {x : Int32} (H : es_Srt b n rp) (hd : ∀ i, i < n → ¬ rp (b + i) = x) :
    ∃ j, j ≤ n ∧ (∀ i, i < j → rp (b + i) < x) ∧ (∀ i, j ≤ i → i < n → x < rp (b + i)) := by
  rcases es_fst (fun i => ¬ rp (b + i) < x) n n 0 (by omega) with ⟨j, h1, h2, h3, h4⟩ | h
  · refine ⟨j, by omega, fun i hi => ?_, fun i hi hn => ?_⟩
    · have := h4 i (by omega) hi
      exact Classical.byContradiction this
    · have hj := es_ntri h3 (hd j h2)
      by_cases e : i = j
      · rw [e]; exact hj
      · exact es_lttr hj (H j i (by omega) hn)
  · exact ⟨n, Nat.le_refl n, fun i hi => Classical.byContradiction (h i (by omega) hi), fun i h1 h2 => by omega⟩
/-- what lies at a place of the row after it -/
theorem es_ins_w {b n j : Nat} (r : Nat → Int32) (x : Int32) (hj : j ≤ n) (i : Nat) (hi : i < n + 1) :
    (i = j ∧ upd (es_ins r (b + j) (b + n)) (b + j) x (b + i) = x) ∨ (∃ i', i' < n ∧ (i < j → i' = i) ∧ (j ≤ i → i' + 1 = i) ∧ i ≠ j ∧ upd (es_ins r (b + j) (b + n)) (b + j) x (b + i) = r (b + i')) := by
  by_cases e : i = j
  · subst e
    exact Or.inl ⟨rfl, pk_us⟩
  · refine Or.inr ?_
    by_cases z : i < j
    · exact ⟨i, by omega, fun _ => rfl, fun _ => by omega, e, by rw [pk_un (by omega), es_ins_o (by omega)]⟩
    · exact ⟨i - 1, by omega, fun _ => by omega, fun _ => by omega, e, by rw [pk_un (by omega), es_ins_i (by omega) (by omega), show b + i - 1 = b + (i - 1) by omega]⟩
theorem es_ins_f {b n j k : Nat} {r : Nat → Int32} {x : Int32} (hj : j ≤ n) (h : k < b ∨ b + n < k) : upd (es_ins r (b + j) (b + n)) (b + j) x k = r k := by
  rw [pk_un (by omega), es_ins_o (by omega)]
theorem es_Row_i {bx by_ n lim j a : Nat} {tm : Int32} {rp rt wh oft : Nat → Int32} (H : es_Row bx by_ n lim rp rt wh oft) (hj : j ≤ n) (ha : a < lim) :
    es_Row bx by_ (n + 1) lim (upd (es_ins rp (bx + j) (bx + n)) (bx + j) (nI a)) (upd (es_ins rt (bx + j) (bx + n)) (bx + j) tm) (upd (es_ins wh (by_ + j) (by_ + n)) (by_ + j) (nI a)) (upd (es_ins oft (by_ + j) (by_ + n)) (by_ + j) tm) := by
  intro i hi
  by_cases e : i = j
  · subst e
    rw [pk_us, pk_us, pk_us, pk_us]
    exact ⟨⟨a, ha, rfl⟩, rfl, rfl⟩
  · rw [pk_un (by omega), pk_un (by omega), pk_un (by omega), pk_un (by omega)]
    by_cases z : i < j
    · rw [es_ins_o (by omega), es_ins_o (by omega), es_ins_o (by omega), es_ins_o (by omega)]
      exact H i (by omega)
    · rw [es_ins_i (by omega) (by omega), es_ins_i (by omega) (by omega), es_ins_i (by omega) (by omega), es_ins_i (by omega) (by omega), show bx + i - 1 = bx + (i - 1) by omega, show by_ + i - 1 = by_ + (i - 1) by omega]
      exact H (i - 1) (by omega)
theorem es_Srt_i {b n j : Nat} {rp : Nat → Int32} {x : Int32} (H : es_Srt b n rp) (hj : j ≤ n) (h1 : ∀ i, i < j → rp (b + i) < x) (h2 : ∀ i, j ≤ i → i < n → x < rp (b + i)) :
    es_Srt b (n + 1) (upd (es_ins rp (b + j) (b + n)) (b + j) x) := by
  intro y z hyz hz
  rcases es_ins_w (b := b) rp x hj y (by omega) with ⟨e1, e2⟩ | ⟨y', a1, a2, a3, a4, a5⟩
  · rcases es_ins_w (b := b) rp x hj z hz with ⟨f1, f2⟩ | ⟨z', b1, b2, b3, b4, b5⟩
    · omega
    · rw [e2, b5]
      exact h2 z' (by omega) b1
  · rcases es_ins_w (b := b) rp x hj z hz with ⟨f1, f2⟩ | ⟨z', b1, b2, b3, b4, b5⟩
    · rw [a5, f2]
      exact h1 y' (by omega)
    · rw [a5, b5]
      exact H y' z' (by omega) b1
end
