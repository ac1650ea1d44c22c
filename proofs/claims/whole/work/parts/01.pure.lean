section
/-! numbers and stores (from the rows to paste) -/
theorem pk_us {f : Nat → Int32} {k : Nat} {x : Int32} : upd f k x k = x := if_pos rfl
theorem pk_un {f : Nat → Int32} {k j : Nat} {x : Int32} (h : j ≠ k) : upd f k x j = f j := if_neg h
theorem pk_sub {a b : Nat} (h : b ≤ a) : nI a - nI b = nI (a - b) := by
  obtain ⟨c, rfl⟩ : ∃ c, a = c + b := ⟨a - b, by omega⟩
  rw [← nI_add, Int32.add_sub_cancel, Nat.add_sub_cancel]
theorem pk_m1 (n : Nat) : nI (n + 1) + (-1) = nI n := by
  rw [← nI_1, Int32.add_assoc, show (1 : Int32) + (-1) = 0 from rfl, Int32.add_zero]
theorem pk_mul (a b : Nat) : nI a * nI b = nI (a * b) := (Int32.ofNat_mul a b).symm
theorem pk_div {a d : Nat} (ha : a < 2 ^ 31) (h0 : 0 < d) (hd : d < 2 ^ 31) : nI a / nI d = nI (a / d) := by
  apply Int32.toInt_inj.mp
  rw [lg_idiv_nonneg (by rw [nI_toInt ha]; omega) (by rw [nI_toInt hd]; omega), nI_toInt ha, nI_toInt hd, nI_toInt (Nat.lt_of_le_of_lt (Nat.div_le_self a d) ha)]
  first | rfl | exact (Int.natCast_ediv _ _).symm
theorem pk_rem {a d : Nat} (ha : a < 2 ^ 31) (h0 : 0 < d) (hd : d < 2 ^ 31) : nI a - nI a / nI d * nI d = nI (a % d) := by
  rw [pk_div ha h0 hd, pk_mul, pk_sub (Nat.div_mul_le_self a d)]
  exact congrArg nI (by have := Nat.div_add_mod' a d; omega)
theorem pk_ix (x : Int32) {n : Nat} (hn : n < 2 ^ 31) : x < 0 ∨ nI n ≤ x ∨ ∃ j : Nat, j < n ∧ x = nI j := by
  by_cases h : x < 0
  · exact Or.inl h
  · obtain ⟨j, hj, rfl⟩ := nI_of h
    by_cases h2 : j < n
    · exact Or.inr (Or.inr ⟨j, h2, rfl⟩)
    · exact Or.inr (Or.inl (nI_le (by omega) hj))
theorem pk_le {x y : Int32} {A B : Prop} (a b : Nat) (f : a ≤ b → A) (g : b < a → B) (hx : x = nI a := by rfl) (hy : y = nI b := by rfl) (ha : a < 2 ^ 31 := by omega) (hb : b < 2 ^ 31 := by omega) : (x ≤ y → A) ∧ (¬ x ≤ y → B) := by
  subst hx hy
  rw [nI_leI ha hb]
  exact ⟨f, fun z => g (by omega)⟩
theorem pk_lt {x y : Int32} {A B : Prop} (a b : Nat) (f : a < b → A) (g : b ≤ a → B) (hx : x = nI a := by rfl) (hy : y = nI b := by rfl) (ha : a < 2 ^ 31 := by omega) (hb : b < 2 ^ 31 := by omega) : (x < y → A) ∧ (¬ x < y → B) := by
  subst hx hy
  rw [nI_ltI ha hb]
  exact ⟨f, fun z => g (by omega)⟩
theorem pk_eq {x y : Int32} {A B : Prop} (a b : Nat) (f : a = b → A) (g : a ≠ b → B) (hx : x = nI a := by rfl) (hy : y = nI b := by rfl) (ha : a < 2 ^ 31 := by omega) (hb : b < 2 ^ 31 := by omega) : (x = y → A) ∧ (¬ x = y → B) := by
  subst hx hy
  rw [nI_eq ha hb]
  exact ⟨f, g⟩
theorem pk_in {x : Int32} (n N : Nat) (h : n < N) (hx : x = nI n := by rfl) (hN : N < 2 ^ 31 := by omega) : vp_in x N := by
  subst hx
  exact vp_in_nI h hN
theorem pk_cl {x : Int32} (n : Nat) (hx : x = nI n := by rfl) (h : n < 2 ^ 31 := by omega) : x.toNatClampNeg = n := by
  subst hx
  exact nI_clamp h
theorem pk_loop {σ : Type} (W : Nat → Nat → σ → Prop) (I : Nat → σ → Prop) (e i0 : Nat) (s : σ) (hi : i0 ≤ e) (h0 : I i0 s) (hx : ∀ n s, I e s → W (n + 1) e s)
    (hs : ∀ n i s, i < e → I i s → (∀ s', I (i + 1) s' → W n (i + 1) s') → W (n + 1) i s) : ∃ n, W n i0 s :=
  ⟨e + 1, loop_i W I e hx hs (e + 1) i0 s hi (by omega) h0⟩

/-! own: numbers -/
theorem es_eq0 {a : Nat} (h : a < 2 ^ 31) : nI a = 0 ↔ a = 0 := by
  rw [← nI_0, nI_eq h (by omega)]
theorem es_le0 {a : Nat} (h : a < 2 ^ 31) : nI a ≤ 0 ↔ a = 0 := by
  rw [← nI_0, nI_leI h (by omega)]; omega
theorem es_ge0 {a : Nat} (h : a < 2 ^ 31) : 0 ≤ nI a := nI_pos' h
theorem es_ltn {a : Nat} (h : a < 2 ^ 31) : ¬ nI a < 0 := nI_pos h
theorem es_m1lt : (-1 : Int32) < 0 := by decide
theorem es_m4lt : (-4 : Int32) < 0 := by decide
theorem es_nm1 {a : Nat} (h : a < 2 ^ 31) : ¬ nI a = -1 := by
  intro e
  have := nI_pos (n := a) h
  rw [e] at this
  exact this es_m1lt
theorem es_nm4 {a : Nat} (h : a < 2 ^ 31) : ¬ nI a = -4 := by
  intro e
  have := nI_pos (n := a) h
  rw [e] at this
  exact this es_m4lt
theorem es_s1 {n : Nat} (h : 0 < n) : nI n - 1 = nI (n - 1) := by
  obtain ⟨m, rfl⟩ : ∃ m, n = m + 1 := ⟨n - 1, by omega⟩
  exact nI_pred m
theorem es_m1 {n : Nat} (h : 0 < n) : nI n + (-1) = nI (n - 1) := by
  obtain ⟨m, rfl⟩ : ∃ m, n = m + 1 := ⟨n - 1, by omega⟩
  exact pk_m1 m
theorem es_inj {a b : Nat} (h : nI a = nI b) (ha : a < 2 ^ 31) (hb : b < 2 ^ 31) : a = b := (nI_eq ha hb).mp h
theorem es_lt_iff (a b : Int32) : a < b ↔ a.toInt < b.toInt := Int32.lt_iff_toInt_lt
theorem es_le_iff (a b : Int32) : a ≤ b ↔ a.toInt ≤ b.toInt := Int32.le_iff_toInt_le
theorem es_nle {a b : Int32} (h : ¬ a ≤ b) : b < a := Int32.not_le.mp h
theorem es_nlt {a b : Int32} (h : ¬ a < b) : b ≤ a := Int32.not_lt.mp h
theorem es_ltle {a b c : Int32} (h : a < b) (g : b ≤ c) : a < c := by
  rw [es_lt_iff] at *; rw [es_le_iff] at g; omega
theorem es_lelt {a b c : Int32} (h : a ≤ b) (g : b < c) : a < c := by
  rw [es_lt_iff] at *; rw [es_le_iff] at h; omega
theorem es_lttr {a b c : Int32} (h : a < b) (g : b < c) : a < c := by
  rw [es_lt_iff] at *; omega
theorem es_ltirr {a : Int32} (h : a < a) : False := by
  rw [es_lt_iff] at h; omega
/-- an int in a range, or not -/
theorem es_rg (x : Int32) (n : Nat) (hn : n < 2 ^ 31) : (x < 0 ∨ nI n ≤ x) ∨ (∃ j : Nat, j < n ∧ x = nI j) := by
  rcases pk_ix x hn with h | h | h
  · exact Or.inl (Or.inl h)
  · exact Or.inl (Or.inr h)
  · exact Or.inr h
theorem es_nar : ∀ n, n < 128 → vp_nar .byte (nI n) = nI n ∧ (nI n).toInt8.toInt32 = nI n := by
  intro n hn
  have h : ∀ m : Fin 128, (nI m.val).toInt8.toInt32 = nI m.val := by decide +kernel
  have := h ⟨n, hn⟩
  exact ⟨by rw [vp_nar_byte]; exact this, this⟩
theorem es_nb0 : vp_nar .boolean 0 = 0 := by decide
theorem es_nb1 : vp_nar .boolean 1 = 1 := by decide
theorem es_nbm : vp_nar .byte (-1) = -1 := by rw [vp_nar_byte]; decide
theorem es_nb_0 : vp_nar .byte 0 = 0 := by rw [vp_nar_byte]; decide
theorem es_upd0 {f : Nat → Int32} {k : Nat} {x : Int32} (h : f k = x) : upd f k x = f := by
  funext j
  by_cases e : j = k
  · rw [e, pk_us, h]
  · rw [pk_un e]

theorem ea_leT {a b : Nat} (h : a ≤ b) (hb : b < 2 ^ 31) : (nI a ≤ nI b) = True := eq_true (nI_le h hb)
theorem ea_leF {a b : Nat} (h : b < a) (ha : a < 2 ^ 31) : (nI a ≤ nI b) = False := eq_false (nI_ge h ha)
theorem ea_ltT {a b : Nat} (h : a < b) (hb : b < 2 ^ 31) : (nI a < nI b) = True := eq_true (nI_lt h hb)
theorem ea_ltF {a b : Nat} (h : b ≤ a) (ha : a < 2 ^ 31) : (nI a < nI b) = False := eq_false (nI_nlt h ha)
theorem ea_eqT {a b : Nat} (h : a = b) : (nI a = nI b) = True := eq_true (by rw [h])
theorem ea_eqF {a b : Nat} (h : a ≠ b) (ha : a < 2 ^ 31) (hb : b < 2 ^ 31) : (nI a = nI b) = False := eq_false (fun z => h (es_inj z ha hb))
/-! own: events of a stream, cut levels, removed records -/
def es_ev (cut str : Nat → Int32) (s : Int32) : Nat → Nat
  | 0 => 0
  | n + 1 => if cut n = 0 ∧ str n = s then es_ev cut str s n + 1 else es_ev cut str s n
def es_cm (cut str val : Nat → Int32) (s : Int32) : Nat → Int32
  | 0 => 0
  | n + 1 => if ¬ cut n = 0 ∧ str n = s ∧ es_cm cut str val s n < val n then val n else es_cm cut str val s n
def es_rc (rm : Nat → Int32) : Nat → Nat
  | 0 => 0
  | n + 1 => if rm n = 0 then es_rc rm n else es_rc rm n + 1
theorem es_ev_s (cut str : Nat → Int32) (s : Int32) (n : Nat) : es_ev cut str s (n + 1) = if cut n = 0 ∧ str n = s then es_ev cut str s n + 1 else es_ev cut str s n := rfl
theorem es_cm_s (cut str val : Nat → Int32) (s : Int32) (n : Nat) : es_cm cut str val s (n + 1) = if ¬ cut n = 0 ∧ str n = s ∧ es_cm cut str val s n < val n then val n else es_cm cut str val s n := rfl
theorem es_rc_s (rm : Nat → Int32) (n : Nat) : es_rc rm (n + 1) = if rm n = 0 then es_rc rm n else es_rc rm n + 1 := rfl
theorem es_ev_le (cut str : Nat → Int32) (s : Int32) : ∀ n, es_ev cut str s n ≤ n := by
  intro n
  induction n with
  | zero => exact Nat.le_refl 0
  | succ n ih => rw [es_ev_s]; split <;> omega
theorem es_rc_le (rm : Nat → Int32) : ∀ n, es_rc rm n ≤ n := by
  intro n
  induction n with
  | zero => exact Nat.le_refl 0
  | succ n ih => rw [es_rc_s]; split <;> omega
theorem es_ev_c {cut str cut' str' : Nat → Int32} {s : Int32} : ∀ n, (∀ i, i < n → cut' i = cut i ∧ str' i = str i) → es_ev cut' str' s n = es_ev cut str s n := by
  intro n
  induction n with
  | zero => intro _; rfl
  | succ n ih =>
    intro h
    rw [es_ev_s, es_ev_s, ih (fun i hi => h i (by omega)), (h n (by omega)).1, (h n (by omega)).2]
theorem es_cm_c {cut str val cut' str' val' : Nat → Int32} {s : Int32} : ∀ n, (∀ i, i < n → cut' i = cut i ∧ str' i = str i ∧ val' i = val i) → es_cm cut' str' val' s n = es_cm cut str val s n := by
  intro n
  induction n with
  | zero => intro _; rfl
  | succ n ih =>
    intro h
    rw [es_cm_s, es_cm_s, ih (fun i hi => h i (by omega)), (h n (by omega)).1, (h n (by omega)).2.1, (h n (by omega)).2.2]
theorem es_rc_c {rm rm' : Nat → Int32} : ∀ n, (∀ i, i < n → rm' i = rm i) → es_rc rm' n = es_rc rm n := by
  intro n
  induction n with
  | zero => intro _; rfl
  | succ n ih =>
    intro h
    rw [es_rc_s, es_rc_s, ih (fun i hi => h i (by omega)), h n (by omega)]
theorem es_rc_u {rm : Nat → Int32} {a : Nat} {x : Int32} (h0 : rm a = 0) (hx : ¬ x = 0) : ∀ n, a < n → es_rc (upd rm a x) n = es_rc rm n + 1 := by
  intro n
  induction n with
  | zero => intro h; omega
  | succ n ih =>
    intro h
    rw [es_rc_s, es_rc_s]
    by_cases e : n = a
    · subst e
      rw [pk_us, if_neg hx, if_pos h0, es_rc_c n (fun i hi => pk_un (by omega))]
    · rw [pk_un e, ih (by omega)]
      split <;> rfl
theorem es_rc_f {rm : Nat → Int32} {m : Nat} : ∀ n, m ≤ n → (∀ i, m ≤ i → i < n → rm i = 0) → es_rc rm n = es_rc rm m := by
  intro n
  induction n with
  | zero => intro h _; rw [show m = 0 by omega]
  | succ n ih =>
    intro h g
    by_cases e : m = n + 1
    · rw [e]
    · rw [es_rc_s, if_pos (g n (by omega) (by omega)), ih (by omega) (fun i h1 h2 => g i h1 (by omega))]
/-- hidden by a cut below n -/
def es_hid (cut str val ver : Nat → Int32) (n i : Nat) : Prop := ∃ k, k < n ∧ ¬ cut k = 0 ∧ str k = str i ∧ ver i < val k
theorem es_hid_iff {cut str val ver : Nat → Int32} {i : Nat} (h0 : 0 ≤ ver i) : ∀ n, es_hid cut str val ver n i ↔ ver i < es_cm cut str val (str i) n := by
  intro n
  induction n with
  | zero =>
    constructor
    · intro ⟨k, hk, _⟩; omega
    · intro h
      exact absurd (es_lelt h0 h) (fun h => es_ltirr h)
  | succ n ih =>
    rw [es_cm_s]
    constructor
    · intro ⟨k, hk, h1, h2, h3⟩
      split
      · rename_i hc
        by_cases e : k = n
        · rw [← e]; exact h3
        · exact es_lttr (ih.mp ⟨k, by omega, h1, h2, h3⟩) hc.2.2
      · rename_i hc
        by_cases e : k = n
        · subst e
          exact es_ltle h3 (es_nlt (fun h => hc ⟨h1, h2, h⟩))
        · exact ih.mp ⟨k, by omega, h1, h2, h3⟩
    · intro h
      split at h
      · rename_i hc
        exact ⟨n, by omega, hc.1, hc.2.1, h⟩
      · obtain ⟨k, hk, h1⟩ := ih.mpr h
        exact ⟨k, by omega, h1⟩
/-- an event that is shown -/
def es_S (cut str val ver : Nat → Int32) (c i : Nat) : Prop := cut i = 0 ∧ es_cm cut str val (str i) c ≤ ver i
theorem es_S_iff {cut str val ver : Nat → Int32} {c i : Nat} (h0 : 0 ≤ ver i) : es_S cut str val ver c i ↔ cut i = 0 ∧ ¬ es_hid cut str val ver c i := by
  rw [es_hid_iff h0]
  exact ⟨fun h => ⟨h.1, fun g => es_ltirr (es_lelt h.2 g)⟩, fun h => ⟨h.1, es_nlt h.2⟩⟩
theorem es_S_dec (cut str val ver : Nat → Int32) (c i : Nat) : es_S cut str val ver c i ∨ ¬ es_S cut str val ver c i := Classical.em _
/-- what the component holds where the record is a cut -/
def es_T (cut ty : Nat → Int32) : Nat → Int32 := fun i => if cut i = 0 then ty i else -1
def es_V (cut ver val : Nat → Int32) : Nat → Int32 := fun i => if cut i = 0 then ver i else val i
def es_W (cut val : Nat → Int32) : Nat → Int32 := fun i => if cut i = 0 then val i else 0
theorem es_T0 {cut ty : Nat → Int32} {i : Nat} (h : cut i = 0) : es_T cut ty i = ty i := if_pos h
theorem es_T1 {cut ty : Nat → Int32} {i : Nat} (h : ¬ cut i = 0) : es_T cut ty i = -1 := if_neg h
theorem es_V0 {cut ver val : Nat → Int32} {i : Nat} (h : cut i = 0) : es_V cut ver val i = ver i := if_pos h
theorem es_V1 {cut ver val : Nat → Int32} {i : Nat} (h : ¬ cut i = 0) : es_V cut ver val i = val i := if_neg h
theorem es_W0 {cut val : Nat → Int32} {i : Nat} (h : cut i = 0) : es_W cut val i = val i := if_pos h
theorem es_Tc {cut ty : Nat → Int32} {i : Nat} (h : ¬ ty i = -1) : es_T cut ty i = -1 ↔ ¬ cut i = 0 := by
  by_cases z : cut i = 0
  · rw [es_T0 z]; exact ⟨fun e => absurd e h, fun e => absurd z e⟩
  · rw [es_T1 z]; exact ⟨fun _ => z, fun _ => rfl⟩
theorem es_Tu {cut ty : Nat → Int32} {c : Nat} {b t : Int32} : es_T (upd cut c b) (upd ty c t) = upd (es_T cut ty) c (if b = 0 then t else -1) := by
  funext i
  by_cases e : i = c
  · subst e; simp only [es_T, pk_us]
  · simp only [es_T, pk_un e]
theorem es_Vu {cut ver val : Nat → Int32} {c : Nat} {b v w : Int32} : es_V (upd cut c b) (upd ver c v) (upd val c w) = upd (es_V cut ver val) c (if b = 0 then v else w) := by
  funext i
  by_cases e : i = c
  · subst e; simp only [es_V, pk_us]
  · simp only [es_V, pk_un e]
theorem es_Wu {cut val : Nat → Int32} {c : Nat} {b w : Int32} : es_W (upd cut c b) (upd val c w) = upd (es_W cut val) c (if b = 0 then w else 0) := by
  funext i
  by_cases e : i = c
  · subst e; simp only [es_W, pk_us]
  · simp only [es_W, pk_un e]
/-- the first place from i on -/
theorem es_fst (P : Nat → Prop) (c : Nat) : ∀ d i, i + d = c → (∃ a, i ≤ a ∧ a < c ∧ P a ∧ ∀ j, i ≤ j → j < a → ¬ P j) ∨ (∀ j, i ≤ j → j < c → ¬ P j) := by
  intro d
  induction d with
  | zero => intro i h; exact Or.inr (fun j h1 h2 => by omega)
  | succ d ih =>
    intro i h
    rcases Classical.em (P i) with p | p
    · exact Or.inl ⟨i, by omega, by omega, p, fun j h1 h2 => by omega⟩
    · rcases ih (i + 1) (by omega) with ⟨a, h1, h2, h3, h4⟩ | h1
      · refine Or.inl ⟨a, by omega, h2, h3, fun j g1 g2 => ?_⟩
        by_cases e : j = i
        · rw [e]; exact p
        · exact h4 j (by omega) g2
      · refine Or.inr (fun j g1 g2 => ?_)
        by_cases e : j = i
        · rw [e]; exact p
        · exact h1 j (by omega) g2
theorem es_fstu {P : Nat → Prop} {i a b : Nat} (pa : P a) (ha : i ≤ a) (na : ∀ j, i ≤ j → j < a → ¬ P j) (pb : P b) (hb : i ≤ b) (nb : ∀ j, i ≤ j → j < b → ¬ P j) : a = b := by
  rcases Nat.lt_trichotomy a b with h | h | h
  · exact absurd pa (nb a ha h)
  · exact h
  · exact absurd pb (na b hb h)
end
