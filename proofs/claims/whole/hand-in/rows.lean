section
section
/-! numbers and stores (from the rows to paste) -/
theorem pk_us {f : Nat → Int32} {k : Nat} {x : Int32} : upd f k x k = x := if_pos rfl
theorem pk_un {f : Nat → Int32} {k j : Nat} {x : Int32} (h : j ≠ k) : upd f k x j = f j := if_neg h
theorem pk_sub {a b : Nat} (h : b ≤ a) : nI a - nI b = nI (a - b) := by
  obtain ⟨c, rfl⟩ : ∃ c, a = c + b := ⟨a - b, by omega⟩
  rw [← nI_add, Int32.add_sub_cancel, Nat.add_sub_cancel]
theorem pk_m1 (n : Nat) : nI (n + 1) + (-1) = nI n := by
  rw [← nI_1, Int32.add_assoc, show (1 : Int32) + (-1) = 0 from rfl, Int32.add_zero]
theorem pk_mul (a b : Nat) : nI a * nI b = nI (a * b) := (Int32.ofNat_mul a b).symm
theorem pk_div {a d : Nat} (ha : a < 2 ^ 31) (h0 : 0 < d) (hd : d < 2 ^ 31) : nI a / nI d = nI (a / d) := by
  apply Int32.toInt_inj.mp
  rw [lg_idiv_nonneg (by rw [nI_toInt ha]; omega) (by rw [nI_toInt hd]; omega), nI_toInt ha, nI_toInt hd, nI_toInt (Nat.lt_of_le_of_lt (Nat.div_le_self a d) ha)]
  first | rfl | exact (Int.natCast_ediv _ _).symm
theorem pk_rem {a d : Nat} (ha : a < 2 ^ 31) (h0 : 0 < d) (hd : d < 2 ^ 31) : nI a - nI a / nI d * nI d = nI (a % d) := by
  rw [pk_div ha h0 hd, pk_mul, pk_sub (Nat.div_mul_le_self a d)]
  exact congrArg nI (by have := Nat.div_add_mod' a d; omega)
theorem pk_ix (x : Int32) {n : Nat} (hn : n < 2 ^ 31) : x < 0 ∨ nI n ≤ x ∨ ∃ j : Nat, j < n ∧ x = nI j := by
  by_cases h : x < 0
  · exact Or.inl h
  · obtain ⟨j, hj, rfl⟩ := nI_of h
    by_cases h2 : j < n
    · exact Or.inr (Or.inr ⟨j, h2, rfl⟩)
    · exact Or.inr (Or.inl (nI_le (by omega) hj))
theorem pk_le {x y : Int32} {A B : Prop} (a b : Nat) (f : a ≤ b → A) (g : b < a → B) (hx : x = nI a := by rfl) (hy : y = nI b := by rfl) (ha : a < 2 ^ 31 := by omega) (hb : b < 2 ^ 31 := by omega) : (x ≤ y → A) ∧ (¬ x ≤ y → B) := by
  subst hx hy
  rw [nI_leI ha hb]
  exact ⟨f, fun z => g (by omega)⟩
theorem pk_lt {x y : Int32} {A B : Prop} (a b : Nat) (f : a < b → A) (g : b ≤ a → B) (hx : x = nI a := by rfl) (hy : y = nI b := by rfl) (ha : a < 2 ^ 31 := by omega) (hb : b < 2 ^ 31 := by omega) : (x < y → A) ∧ (¬ x < y → B) := by
  subst hx hy
  rw [nI_ltI ha hb]
  exact ⟨f, fun z => g (by omega)⟩
theorem pk_eq {x y : Int32} {A B : Prop} (a b : Nat) (f : a = b → A) (g : a ≠ b → B) (hx : x = nI a := by rfl) (hy : y = nI b := by rfl) (ha : a < 2 ^ 31 := by omega) (hb : b < 2 ^ 31 := by omega) : (x = y → A) ∧ (¬ x = y → B) := by
  subst hx hy
  rw [nI_eq ha hb]
  exact ⟨f, g⟩
theorem pk_in {x : Int32} (n N : Nat) (h : n < N) (hx : x = nI n := by rfl) (hN : N < 2 ^ 31 := by omega) : vp_in x N := by
  subst hx
  exact vp_in_nI h hN
theorem pk_cl {x : Int32} (n : Nat) (hx : x = nI n := by rfl) (h : n < 2 ^ 31 := by omega) : x.toNatClampNeg = n := by
  subst hx
  exact nI_clamp h
theorem pk_loop {σ : Type} (W : Nat → Nat → σ → Prop) (I : Nat → σ → Prop) (e i0 : Nat) (s : σ) (hi : i0 ≤ e) (h0 : I i0 s) (hx : ∀ n s, I e s → W (n + 1) e s)
    (hs : ∀ n i s, i < e → I i s → (∀ s', I (i + 1) s' → W n (i + 1) s') → W (n + 1) i s) : ∃ n, W n i0 s :=
  ⟨e + 1, loop_i W I e hx hs (e + 1) i0 s hi (by omega) h0⟩

/-! own: numbers -/
theorem es_eq0 {a : Nat} (h : a < 2 ^ 31) : nI a = 0 ↔ a = 0 := by
  rw [← nI_0, nI_eq h (by omega)]
theorem es_le0 {a : Nat} (h : a < 2 ^ 31) : nI a ≤ 0 ↔ a = 0 := by
  rw [← nI_0, nI_leI h (by omega)]; omega
theorem es_ge0 {a : Nat} (h : a < 2 ^ 31) : 0 ≤ nI a := nI_pos' h
theorem es_ltn {a : Nat} (h : a < 2 ^ 31) : ¬ nI a < 0 := nI_pos h
theorem es_m1lt : (-1 : Int32) < 0 := by decide
theorem es_m4lt : (-4 : Int32) < 0 := by decide
theorem es_nm1 {a : Nat} (h : a < 2 ^ 31) : ¬ nI a = -1 := by
  intro e
  have := nI_pos (n := a) h
  rw [e] at this
  exact this es_m1lt
theorem es_nm4 {a : Nat} (h : a < 2 ^ 31) : ¬ nI a = -4 := by
  intro e
  have := nI_pos (n := a) h
  rw [e] at this
  exact this es_m4lt
theorem es_s1 {n : Nat} (h : 0 < n) : nI n - 1 = nI (n - 1) := by
  obtain ⟨m, rfl⟩ : ∃ m, n = m + 1 := ⟨n - 1, by omega⟩
  exact nI_pred m
theorem es_m1 {n : Nat} (h : 0 < n) : nI n + (-1) = nI (n - 1) := by
  obtain ⟨m, rfl⟩ : ∃ m, n = m + 1 := ⟨n - 1, by omega⟩
  exact pk_m1 m
theorem es_inj {a b : Nat} (h : nI a = nI b) (ha : a < 2 ^ 31) (hb : b < 2 ^ 31) : a = b := (nI_eq ha hb).mp h
theorem es_lt_iff (a b : Int32) : a < b ↔ a.toInt < b.toInt := Int32.lt_iff_toInt_lt
theorem es_le_iff (a b : Int32) : a ≤ b ↔ a.toInt ≤ b.toInt := Int32.le_iff_toInt_le
theorem es_nle {a b : Int32} (h : ¬ a ≤ b) : b < a := Int32.not_le.mp h
theorem es_nlt {a b : Int32} (h : ¬ a < b) : b ≤ a := Int32.not_lt.mp h
theorem es_ltle {a b c : Int32} (h : a < b) (g : b ≤ c) : a < c := by
  rw [es_lt_iff] at *; rw [es_le_iff] at g; omega
theorem es_lelt {a b c : Int32} (h : a ≤ b) (g : b < c) : a < c := by
  rw [es_lt_iff] at *; rw [es_le_iff] at h; omega
theorem es_lttr {a b c : Int32} (h : a < b) (g : b < c) : a < c := by
  rw [es_lt_iff] at *; omega
theorem es_ltirr {a : Int32} (h : a < a) : False := by
  rw [es_lt_iff] at h; omega
/-- an int in a range, or not -/
theorem es_rg (x : Int32) (n : Nat) (hn : n < 2 ^ 31) : (x < 0 ∨ nI n ≤ x) ∨ (∃ j : Nat, j < n ∧ x = nI j) := by
  rcases pk_ix x hn with h | h | h
  · exact Or.inl (Or.inl h)
  · exact Or.inl (Or.inr h)
  · exact Or.inr h
theorem es_nar : ∀ n, n < 128 → vp_nar .byte (nI n) = nI n ∧ (nI n).toInt8.toInt32 = nI n := by
  intro n hn
  have h : ∀ m : Fin 128, (nI m.val).toInt8.toInt32 = nI m.val := by decide +kernel
  have := h ⟨n, hn⟩
  exact ⟨by rw [vp_nar_byte]; exact this, this⟩
theorem es_nb0 : vp_nar .boolean 0 = 0 := by decide
theorem es_nb1 : vp_nar .boolean 1 = 1 := by decide
theorem es_nbm : vp_nar .byte (-1) = -1 := by rw [vp_nar_byte]; decide
theorem es_nb_0 : vp_nar .byte 0 = 0 := by rw [vp_nar_byte]; decide
theorem es_upd0 {f : Nat → Int32} {k : Nat} {x : Int32} (h : f k = x) : upd f k x = f := by
  funext j
  by_cases e : j = k
  · rw [e, pk_us, h]
  · rw [pk_un e]

theorem ea_leT {a b : Nat} (h : a ≤ b) (hb : b < 2 ^ 31) : (nI a ≤ nI b) = True := eq_true (nI_le h hb)
theorem ea_leF {a b : Nat} (h : b < a) (ha : a < 2 ^ 31) : (nI a ≤ nI b) = False := eq_false (nI_ge h ha)
theorem ea_ltT {a b : Nat} (h : a < b) (hb : b < 2 ^ 31) : (nI a < nI b) = True := eq_true (nI_lt h hb)
theorem ea_ltF {a b : Nat} (h : b ≤ a) (ha : a < 2 ^ 31) : (nI a < nI b) = False := eq_false (nI_nlt h ha)
theorem ea_eqT {a b : Nat} (h : a = b) : (nI a = nI b) = True := eq_true (by rw [h])
theorem ea_eqF {a b : Nat} (h : a ≠ b) (ha : a < 2 ^ 31) (hb : b < 2 ^ 31) : (nI a = nI b) = False := eq_false (fun z => h (es_inj z ha hb))
/-! own: events of a stream, cut levels, removed records -/
def es_ev (cut str : Nat → Int32) (s : Int32) : Nat → Nat
  | 0 => 0
  | n + 1 => if cut n = 0 ∧ str n = s then es_ev cut str s n + 1 else es_ev cut str s n
def es_cm (cut str val : Nat → Int32) (s : Int32) : Nat → Int32
  | 0 => 0
  | n + 1 => if ¬ cut n = 0 ∧ str n = s ∧ es_cm cut str val s n < val n then val n else es_cm cut str val s n
def es_rc (rm : Nat → Int32) : Nat → Nat
  | 0 => 0
  | n + 1 => if rm n = 0 then es_rc rm n else es_rc rm n + 1
theorem es_ev_s (cut str : Nat → Int32) (s : Int32) (n : Nat) : es_ev cut str s (n + 1) = if cut n = 0 ∧ str n = s then es_ev cut str s n + 1 else es_ev cut str s n := rfl
theorem es_cm_s (cut str val : Nat → Int32) (s : Int32) (n : Nat) : es_cm cut str val s (n + 1) = if ¬ cut n = 0 ∧ str n = s ∧ es_cm cut str val s n < val n then val n else es_cm cut str val s n := rfl
theorem es_rc_s (rm : Nat → Int32) (n : Nat) : es_rc rm (n + 1) = if rm n = 0 then es_rc rm n else es_rc rm n + 1 := rfl
theorem es_ev_le (cut str : Nat → Int32) (s : Int32) : ∀ n, es_ev cut str s n ≤ n := by
  intro n
  induction n with
  | zero => exact Nat.le_refl 0
  | succ n ih => rw [es_ev_s]; split <;> omega
theorem es_rc_le (rm : Nat → Int32) : ∀ n, es_rc rm n ≤ n := by
  intro n
  induction n with
  | zero => exact Nat.le_refl 0
  | succ n ih => rw [es_rc_s]; split <;> omega
theorem es_ev_c {cut str cut' str' : Nat → Int32} {s : Int32} : ∀ n, (∀ i, i < n → cut' i = cut i ∧ str' i = str i) → es_ev cut' str' s n = es_ev cut str s n := by
  intro n
  induction n with
  | zero => intro _; rfl
  | succ n ih =>
    intro h
    rw [es_ev_s, es_ev_s, ih (fun i hi => h i (by omega)), (h n (by omega)).1, (h n (by omega)).2]
theorem es_cm_c {cut str val cut' str' val' : Nat → Int32} {s : Int32} : ∀ n, (∀ i, i < n → cut' i = cut i ∧ str' i = str i ∧ val' i = val i) → es_cm cut' str' val' s n = es_cm cut str val s n := by
  intro n
  induction n with
  | zero => intro _; rfl
  | succ n ih =>
    intro h
    rw [es_cm_s, es_cm_s, ih (fun i hi => h i (by omega)), (h n (by omega)).1, (h n (by omega)).2.1, (h n (by omega)).2.2]
theorem es_rc_c {rm rm' : Nat → Int32} : ∀ n, (∀ i, i < n → rm' i = rm i) → es_rc rm' n = es_rc rm n := by
  intro n
  induction n with
  | zero => intro _; rfl
  | succ n ih =>
    intro h
    rw [es_rc_s, es_rc_s, ih (fun i hi => h i (by omega)), h n (by omega)]
theorem es_rc_u {rm : Nat → Int32} {a : Nat} {x : Int32} (h0 : rm a = 0) (hx : ¬ x = 0) : ∀ n, a < n → es_rc (upd rm a x) n = es_rc rm n + 1 := by
  intro n
  induction n with
  | zero => intro h; omega
  | succ n ih =>
    intro h
    rw [es_rc_s, es_rc_s]
    by_cases e : n = a
    · subst e
      rw [pk_us, if_neg hx, if_pos h0, es_rc_c n (fun i hi => pk_un (by omega))]
    · rw [pk_un e, ih (by omega)]
      split <;> rfl
theorem es_rc_f {rm : Nat → Int32} {m : Nat} : ∀ n, m ≤ n → (∀ i, m ≤ i → i < n → rm i = 0) → es_rc rm n = es_rc rm m := by
  intro n
  induction n with
  | zero => intro h _; rw [show m = 0 by omega]
  | succ n ih =>
    intro h g
    by_cases e : m = n + 1
    · rw [e]
    · rw [es_rc_s, if_pos (g n (by omega) (by omega)), ih (by omega) (fun i h1 h2 => g i h1 (by omega))]
/-- hidden by a cut below n -/
def es_hid (cut str val ver : Nat → Int32) (n i : Nat) : Prop := ∃ k, k < n ∧ ¬ cut k = 0 ∧ str k = str i ∧ ver i < val k
theorem es_hid_iff {cut str val ver : Nat → Int32} {i : Nat} (h0 : 0 ≤ ver i) : ∀ n, es_hid cut str val ver n i ↔ ver i < es_cm cut str val (str i) n := by
  intro n
  induction n with
  | zero =>
    constructor
    · intro ⟨k, hk, _⟩; omega
    · intro h
      exact absurd (es_lelt h0 h) (fun h => es_ltirr h)
  | succ n ih =>
    rw [es_cm_s]
    constructor
    · intro ⟨k, hk, h1, h2, h3⟩
      split
      · rename_i hc
        by_cases e : k = n
        · rw [← e]; exact h3
        · exact es_lttr (ih.mp ⟨k, by omega, h1, h2, h3⟩) hc.2.2
      · rename_i hc
        by_cases e : k = n
        · subst e
          exact es_ltle h3 (es_nlt (fun h => hc ⟨h1, h2, h⟩))
        · exact ih.mp ⟨k, by omega, h1, h2, h3⟩
    · intro h
      split at h
      · rename_i hc
        exact ⟨n, by omega, hc.1, hc.2.1, h⟩
      · obtain ⟨k, hk, h1⟩ := ih.mpr h
        exact ⟨k, by omega, h1⟩
/-- an event that is shown -/
def es_S (cut str val ver : Nat → Int32) (c i : Nat) : Prop := cut i = 0 ∧ es_cm cut str val (str i) c ≤ ver i
theorem es_S_iff {cut str val ver : Nat → Int32} {c i : Nat} (h0 : 0 ≤ ver i) : es_S cut str val ver c i ↔ cut i = 0 ∧ ¬ es_hid cut str val ver c i := by
  rw [es_hid_iff h0]
  exact ⟨fun h => ⟨h.1, fun g => es_ltirr (es_lelt h.2 g)⟩, fun h => ⟨h.1, es_nlt h.2⟩⟩
theorem es_S_dec (cut str val ver : Nat → Int32) (c i : Nat) : es_S cut str val ver c i ∨ ¬ es_S cut str val ver c i := Classical.em _
/-- what the component holds where the record is a cut -/
def es_T (cut ty : Nat → Int32) : Nat → Int32 := fun i => if cut i = 0 then ty i else -1
def es_V (cut ver val : Nat → Int32) : Nat → Int32 := fun i => if cut i = 0 then ver i else val i
def es_W (cut val : Nat → Int32) : Nat → Int32 := fun i => if cut i = 0 then val i else 0
theorem es_T0 {cut ty : Nat → Int32} {i : Nat} (h : cut i = 0) : es_T cut ty i = ty i := if_pos h
theorem es_T1 {cut ty : Nat → Int32} {i : Nat} (h : ¬ cut i = 0) : es_T cut ty i = -1 := if_neg h
theorem es_V0 {cut ver val : Nat → Int32} {i : Nat} (h : cut i = 0) : es_V cut ver val i = ver i := if_pos h
theorem es_V1 {cut ver val : Nat → Int32} {i : Nat} (h : ¬ cut i = 0) : es_V cut ver val i = val i := if_neg h
theorem es_W0 {cut val : Nat → Int32} {i : Nat} (h : cut i = 0) : es_W cut val i = val i := if_pos h
theorem es_Tc {cut ty : Nat → Int32} {i : Nat} (h : ¬ ty i = -1) : es_T cut ty i = -1 ↔ ¬ cut i = 0 := by
  by_cases z : cut i = 0
  · rw [es_T0 z]; exact ⟨fun e => absurd e h, fun e => absurd z e⟩
  · rw [es_T1 z]; exact ⟨fun _ => z, fun _ => rfl⟩
theorem es_Tu {cut ty : Nat → Int32} {c : Nat} {b t : Int32} : es_T (upd cut c b) (upd ty c t) = upd (es_T cut ty) c (if b = 0 then t else -1) := by
  funext i
  by_cases e : i = c
  · subst e; simp only [es_T, pk_us]
  · simp only [es_T, pk_un e]
theorem es_Vu {cut ver val : Nat → Int32} {c : Nat} {b v w : Int32} : es_V (upd cut c b) (upd ver c v) (upd val c w) = upd (es_V cut ver val) c (if b = 0 then v else w) := by
  funext i
  by_cases e : i = c
  · subst e; simp only [es_V, pk_us]
  · simp only [es_V, pk_un e]
theorem es_Wu {cut val : Nat → Int32} {c : Nat} {b w : Int32} : es_W (upd cut c b) (upd val c w) = upd (es_W cut val) c (if b = 0 then w else 0) := by
  funext i
  by_cases e : i = c
  · subst e; simp only [es_W, pk_us]
  · simp only [es_W, pk_un e]
/-- the first place from i on -/
theorem es_fst (P : Nat → Prop) (c : Nat) : ∀ d i, i + d = c → (∃ a, i ≤ a ∧ a < c ∧ P a ∧ ∀ j, i ≤ j → j < a → ¬ P j) ∨ (∀ j, i ≤ j → j < c → ¬ P j) := by
  intro d
  induction d with
  | zero => intro i h; exact Or.inr (fun j h1 h2 => by omega)
  | succ d ih =>
    intro i h
    rcases Classical.em (P i) with p | p
    · exact Or.inl ⟨i, by omega, by omega, p, fun j h1 h2 => by omega⟩
    · rcases ih (i + 1) (by omega) with ⟨a, h1, h2, h3, h4⟩ | h1
      · refine Or.inl ⟨a, by omega, h2, h3, fun j g1 g2 => ?_⟩
        by_cases e : j = i
        · rw [e]; exact p
        · exact h4 j (by omega) g2
      · refine Or.inr (fun j g1 g2 => ?_)
        by_cases e : j = i
        · rw [e]; exact p
        · exact h1 j (by omega) g2
theorem es_fstu {P : Nat → Prop} {i a b : Nat} (pa : P a) (ha : i ≤ a) (na : ∀ j, i ≤ j → j < a → ¬ P j) (pb : P b) (hb : i ≤ b) (nb : ∀ j, i ≤ j → j < b → ¬ P j) : a = b := by
  rcases Nat.lt_trichotomy a b with h | h | h
  · exact absurd pa (nb a ha h)
  · exact h
  · exact absurd pb (na b hb h)
end
end
section
section
/-! the log -/
theorem es_uu {f : Nat → Int32} {k : Nat} {x y : Int32} : upd (upd f k x) k y = upd f k y := by
  funext j
  by_cases e : j = k
  · rw [e, pk_us, pk_us]
  · rw [pk_un e, pk_un e, pk_un e]
/-- c records, f of them flushed, q calls so far; the reference's arrays, then the component's own -/
def es_Log (c f q : Nat) (cut rm str ty fr byi val ver onn call oi jn ec cl : Nat → Int32) : Prop :=
  (c ≤ 2000 ∧ f ≤ c ∧ c - es_rc rm c ≤ 40) ∧
  (∀ i, ∃ s, s < 5 ∧ str i = nI s) ∧
  (∀ i, ∃ t, t < 8 ∧ ty i = nI t) ∧
  (∀ i, ∃ n, n ≤ 2000 ∧ ver i = nI n) ∧
  (∀ i, (rm i = 0 ∨ rm i = 1) ∧ (f ≤ i → rm i = 0)) ∧
  (∀ s, s < 5 → ec s = nI (es_ev cut str (nI s) c)) ∧
  (∀ s, s < 5 → cl s = es_cm cut str val (nI s) c) ∧
  (∀ i, i < c → fr i = -1 ∨ (cut i = 0 ∧ oi i = byi i ∧ ∃ o, o < i ∧ onn i = nI o)) ∧
  (∀ i, i < c → ∃ m, m ≤ q ∧ call i = nI m) ∧
  (∀ j, j + 1 < c → (jn (j + 1) = 0 ↔ ¬ call j = call (j + 1)))
variable {c f q : Nat} {cut rm str ty fr byi val ver onn call oi jn ec cl : Nat → Int32}
theorem es_Log_0 : es_Log 0 0 0 (fun _ => 0) (fun _ => 0) (fun _ => 0) (fun _ => 0) (fun _ => 0) (fun _ => 0) (fun _ => 0) (fun _ => 0) (fun _ => 0) (fun _ => 0) (fun _ => 0) (fun _ => 0) (fun _ => 0) (fun _ => 0) :=
  ⟨⟨by omega, by omega, by omega⟩, fun _ => ⟨0, by omega, rfl⟩, fun _ => ⟨0, by omega, rfl⟩, fun _ => ⟨0, by omega, rfl⟩, fun _ => ⟨Or.inl rfl, fun _ => rfl⟩, fun _ _ => rfl, fun _ _ => rfl, fun _ h => by omega, fun _ h => by omega, fun _ h => by omega⟩
theorem es_Log_q {q' : Nat} (H : es_Log c f q cut rm str ty fr byi val ver onn call oi jn ec cl) (hq : q ≤ q') : es_Log c f q' cut rm str ty fr byi val ver onn call oi jn ec cl := by
  obtain ⟨h0, h1, h2, h3, h4, h5, h6, h7, h8, h9⟩ := H
  refine ⟨h0, h1, h2, h3, h4, h5, h6, h7, fun i hi => ?_, h9⟩
  obtain ⟨m, hm, e⟩ := h8 i hi
  exact ⟨m, by omega, e⟩
theorem es_Log_flush (H : es_Log c f q cut rm str ty fr byi val ver onn call oi jn ec cl) : es_Log c c q cut rm str ty fr byi val ver onn call oi jn ec cl := by
  obtain ⟨h0, h1, h2, h3, h4, h5, h6, h7, h8, h9⟩ := H
  exact ⟨⟨h0.1, Nat.le_refl c, h0.2.2⟩, h1, h2, h3, fun i => ⟨(h4 i).1, fun hi => (h4 i).2 (by omega)⟩, h5, h6, h7, h8, h9⟩
theorem es_Log_rc (H : es_Log c f q cut rm str ty fr byi val ver onn call oi jn ec cl) {e : Nat} (h1 : f ≤ e) (h2 : e ≤ c) : es_rc rm e = es_rc rm c := by
  obtain ⟨h0, _, _, _, h4, _⟩ := H
  rw [es_rc_f c h0.2.1 (fun i g _ => (h4 i).2 g), es_rc_f e h1 (fun i g _ => (h4 i).2 g)]
theorem es_Log_crash (H : es_Log c f q cut rm str ty fr byi val ver onn call oi jn ec cl) {e : Nat} (he : f ≤ e) (hc : e ≤ c) {ec' cl' : Nat → Int32}
    (g1 : ∀ s, s < 5 → ec' s = nI (es_ev cut str (nI s) e)) (g2 : ∀ s, s < 5 → cl' s = es_cm cut str val (nI s) e) : es_Log e e q cut rm str ty fr byi val ver onn call oi jn ec' cl' := by
  have hr := es_Log_rc H he hc
  obtain ⟨h0, h1, h2, h3, h4, h5, h6, h7, h8, h9⟩ := H
  exact ⟨⟨by omega, by omega, by omega⟩, h1, h2, h3, fun i => ⟨(h4 i).1, fun hi => (h4 i).2 (by omega)⟩, g1, g2, fun i hi => h7 i (by omega), fun i hi => h8 i (by omega), fun j hj => h9 j (by omega)⟩
theorem es_Log_scav (H : es_Log c f q cut rm str ty fr byi val ver onn call oi jn ec cl) {rm' : Nat → Int32} (h : ∀ i, (rm' i = 0 ∨ rm' i = 1) ∧ (f ≤ i → rm' i = 0)) (hc : es_rc rm c ≤ es_rc rm' c) : es_Log c f q cut rm' str ty fr byi val ver onn call oi jn ec cl := by
  obtain ⟨h0, h1, h2, h3, h4, h5, h6, h7, h8, h9⟩ := H
  exact ⟨⟨h0.1, h0.2.1, by omega⟩, h1, h2, h3, h, h5, h6, h7, h8, h9⟩
theorem es_ev_add {b s s' : Int32} : es_ev (upd cut c b) (upd str c s) s' (c + 1) = if b = 0 ∧ s = s' then es_ev cut str s' c + 1 else es_ev cut str s' c := by
  rw [es_ev_s, pk_us, pk_us, es_ev_c c (fun i hi => ⟨pk_un (by omega), pk_un (by omega)⟩)]
theorem es_cm_add {b s s' v : Int32} : es_cm (upd cut c b) (upd str c s) (upd val c v) s' (c + 1) = if ¬ b = 0 ∧ s = s' ∧ es_cm cut str val s' c < v then v else es_cm cut str val s' c := by
  rw [es_cm_s, pk_us, pk_us, pk_us, es_cm_c c (fun i hi => ⟨pk_un (by omega), pk_un (by omega), pk_un (by omega)⟩)]
theorem es_rc_add (h : rm c = 0) : es_rc rm (c + 1) = es_rc rm c := by
  rw [es_rc_s, if_pos h]
/-- one record more -/
theorem es_Log_add (H : es_Log c f q cut rm str ty fr byi val ver onn call oi jn ec cl) {s t q' : Nat} {b v fo ov bv ev jv : Int32} {byi' ec' cl' : Nat → Int32}
    (hc : c < 2000) (hr : c - es_rc rm c < 40) (hs : s < 5) (ht : t < 8) (hq : q ≤ q')
    (hb : ∀ i, i < c → byi' i = byi i) (hbv : byi' c = bv)
    (ho : fo = -1 ∨ (b = 0 ∧ ev = bv ∧ ∃ o, o < c ∧ ov = nI o))
    (hj : 0 < c → (jv = 0 ↔ ¬ call (c - 1) = nI q'))
    (hec : ∀ s', s' < 5 → ec' s' = if b = 0 ∧ s' = s then ec s' + 1 else ec s')
    (hcl : ∀ s', s' < 5 → cl' s' = if ¬ b = 0 ∧ s' = s ∧ cl s' < v then v else cl s') :
    es_Log (c + 1) f q' (upd cut c b) rm (upd str c (nI s)) (upd ty c (nI t)) (upd fr c fo) byi' (upd val c v) (upd ver c (nI (es_ev cut str (nI s) c))) (upd onn c ov) (upd call c (nI q')) (upd oi c ev) (upd jn c jv) ec' cl' := by
  obtain ⟨h0, h1, h2, h3, h4, h5, h6, h7, h8, h9⟩ := H
  have hrc := es_rc_add ((h4 c).2 h0.2.1)
  refine ⟨⟨by omega, by omega, by omega⟩, fun i => ?_, fun i => ?_, fun i => ?_, h4, fun s' hs' => ?_, fun s' hs' => ?_, fun i hi => ?_, fun i hi => ?_, fun j hj' => ?_⟩
  · by_cases e : i = c
    · rw [e, pk_us]; exact ⟨s, hs, rfl⟩
    · rw [pk_un e]; exact h1 i
  · by_cases e : i = c
    · rw [e, pk_us]; exact ⟨t, ht, rfl⟩
    · rw [pk_un e]; exact h2 i
  · by_cases e : i = c
    · rw [e, pk_us]; exact ⟨_, by have := es_ev_le cut str (nI s) c; omega, rfl⟩
    · rw [pk_un e]; exact h3 i
  · rw [hec s' hs', es_ev_add, h5 s' hs']
    by_cases z : b = 0 ∧ s' = s
    · rw [if_pos z, if_pos ⟨z.1, by rw [z.2]⟩, nI_1]
    · rw [if_neg z, if_neg (fun w => z ⟨w.1, es_inj w.2.symm (by omega) (by omega)⟩)]
  · rw [hcl s' hs', es_cm_add, h6 s' hs']
    by_cases z : ¬ b = 0 ∧ s' = s ∧ es_cm cut str val (nI s') c < v
    · rw [if_pos z, if_pos ⟨z.1, by rw [z.2.1], z.2.2⟩]
    · rw [if_neg z, if_neg (fun w => z ⟨w.1, es_inj w.2.1.symm (by omega) (by omega), w.2.2⟩)]
  · by_cases e : i = c
    · subst e
      rw [pk_us, pk_us, pk_us, pk_us, hbv]
      exact ho
    · rw [pk_un e, pk_un e, pk_un e, pk_un e, hb i (by omega)]
      exact h7 i (by omega)
  · by_cases e : i = c
    · subst e
      rw [pk_us]; exact ⟨q', Nat.le_refl _, rfl⟩
    · rw [pk_un e]
      obtain ⟨m, hm, e2⟩ := h8 i (by omega)
      exact ⟨m, by omega, e2⟩
  · by_cases e : j + 1 = c
    · subst e
      rw [pk_us, pk_us, pk_un (by omega)]
      exact hj (by omega)
    · rw [pk_un e, pk_un e, pk_un (by omega)]
      exact h9 j (by omega)
theorem es_Log_fresh (H : es_Log c f q cut rm str ty fr byi val ver onn call oi jn ec cl) (hq : q + 1 < 2 ^ 31) (h : 0 < c) : ((0 : Int32) = 0 ↔ ¬ call (c - 1) = nI (q + 1)) := by
  obtain ⟨h0, h1, h2, h3, h4, h5, h6, h7, h8, h9⟩ := H
  obtain ⟨m, hm, e⟩ := h8 (c - 1) (by omega)
  refine ⟨fun _ => ?_, fun _ => rfl⟩
  rw [e]
  intro z
  have := es_inj z (by omega) hq
  omega
end
end
section
section
/-! rows of entries: delete a place, make a place -/
def es_del (r : Nat → Int32) (a b : Nat) : Nat → Int32 := fun j => if a ≤ j ∧ j < b then r (j + 1) else r j
def es_ins (r : Nat → Int32) (a b : Nat) : Nat → Int32 := fun j => if a < j ∧ j ≤ b then r (j - 1) else r j
theorem es_del_0 {r : Nat → Int32} {a b : Nat} (h : b ≤ a) : es_del r a b = r := by
  funext j
  simp only [es_del]
  rw [if_neg (by omega)]
theorem es_del_s {r : Nat → Int32} {a b : Nat} (h : a ≤ b) : upd (es_del r a b) b (es_del r a b (b + 1)) = es_del r a (b + 1) := by
  funext j
  by_cases e : j = b
  · subst e
    rw [pk_us]
    simp only [es_del]
    rw [if_neg (by omega), if_pos (by omega)]
  · rw [pk_un e]
    simp only [es_del]
    by_cases z : a ≤ j ∧ j < b
    · rw [if_pos z, if_pos (by omega)]
    · rw [if_neg z, if_neg (by omega)]
theorem es_del_i {r : Nat → Int32} {a b j : Nat} (h1 : a ≤ j) (h2 : j < b) : es_del r a b j = r (j + 1) := if_pos ⟨h1, h2⟩
theorem es_del_o {r : Nat → Int32} {a b j : Nat} (h : j < a ∨ b ≤ j) : es_del r a b j = r j := if_neg (by omega)
theorem es_ins_0 {r : Nat → Int32} {a b : Nat} (h : b ≤ a) : es_ins r a b = r := by
  funext j
  simp only [es_ins]
  rw [if_neg (by omega)]
/-- the shift runs downward: what is above a is moved already -/
theorem es_ins_s {r : Nat → Int32} {a b : Nat} (h : a ≤ b) (h0 : 0 < a) : upd (es_ins r a b) a (es_ins r a b (a - 1)) = es_ins r (a - 1) b := by
  funext j
  by_cases e : j = a
  · subst e
    rw [pk_us]
    simp only [es_ins]
    rw [if_neg (by omega), if_pos (by omega)]
  · rw [pk_un e]
    simp only [es_ins]
    by_cases z : a < j ∧ j ≤ b
    · rw [if_pos z, if_pos (by omega)]
    · rw [if_neg z, if_neg (by omega)]
theorem es_ins_i {r : Nat → Int32} {a b j : Nat} (h1 : a < j) (h2 : j ≤ b) : es_ins r a b j = r (j - 1) := if_pos ⟨h1, h2⟩
theorem es_ins_o {r : Nat → Int32} {a b j : Nat} (h : j ≤ a ∨ b < j) : es_ins r a b j = r j := if_neg (by omega)

/-- the rows of one group: bx, by: where a row begins on each side; n: how long; below lim -/
def es_Row (bx by_ n lim : Nat) (rp rt wh oft : Nat → Int32) : Prop :=
  ∀ i, i < n → (∃ a, a < lim ∧ rp (bx + i) = nI a) ∧ wh (by_ + i) = rp (bx + i) ∧ oft (by_ + i) = rt (bx + i)
def es_Due (bx by_ n : Nat) (rd du : Nat → Int32) : Prop := ∀ i, i < n → du (by_ + i) = rd (bx + i)
/-- no two the same, in one row and over two -/
def es_Dis (b n : Nat) (rp : Nat → Int32) : Prop := ∀ i j, i < n → j < n → rp (b + i) = rp (b + j) → i = j
def es_Di2 (b n b' n' : Nat) (rp : Nat → Int32) : Prop := ∀ i j, i < n → j < n' → ¬ rp (b + i) = rp (b' + j)
def es_Srt (b n : Nat) (rp : Nat → Int32) : Prop := ∀ i j, i < j → j < n → rp (b + i) < rp (b + j)
theorem es_Row_m {bx by_ n lim lim' : Nat} {rp rt wh oft : Nat → Int32} (H : es_Row bx by_ n lim rp rt wh oft) (h : lim ≤ lim') : es_Row bx by_ n lim' rp rt wh oft := by
  intro i hi
  obtain ⟨⟨a, ha, e⟩, h2⟩ := H i hi
  exact ⟨⟨a, by omega, e⟩, h2⟩
theorem es_Row_c {bx by_ n lim : Nat} {rp rt wh oft rp' rt' wh' oft' : Nat → Int32} (H : es_Row bx by_ n lim rp rt wh oft)
    (h1 : ∀ i, i < n → rp' (bx + i) = rp (bx + i) ∧ rt' (bx + i) = rt (bx + i) ∧ wh' (by_ + i) = wh (by_ + i) ∧ oft' (by_ + i) = oft (by_ + i)) : es_Row bx by_ n lim rp' rt' wh' oft' := by
  intro i hi
  obtain ⟨e1, e2, e3, e4⟩ := h1 i hi
  rw [e1, e2, e3, e4]
  exact H i hi
theorem es_Row_d {bx by_ n lim k : Nat} {rp rt wh oft : Nat → Int32} (H : es_Row bx by_ n lim rp rt wh oft) (hk : k < n) :
    es_Row bx by_ (n - 1) lim (es_del rp (bx + k) (bx + (n - 1))) (es_del rt (bx + k) (bx + (n - 1))) (es_del wh (by_ + k) (by_ + (n - 1))) (es_del oft (by_ + k) (by_ + (n - 1))) := by
  intro i hi
  by_cases z : i < k
  · rw [es_del_o (by omega), es_del_o (by omega), es_del_o (by omega), es_del_o (by omega)]
    exact H i (by omega)
  · rw [es_del_i (by omega) (by omega), es_del_i (by omega) (by omega), es_del_i (by omega) (by omega), es_del_i (by omega) (by omega)]
    exact H (i + 1) (by omega)
theorem es_Due_d {bx by_ n k : Nat} {rd du : Nat → Int32} (H : es_Due bx by_ n rd du) (hk : k < n) : es_Due bx by_ (n - 1) (es_del rd (bx + k) (bx + (n - 1))) (es_del du (by_ + k) (by_ + (n - 1))) := by
  intro i hi
  by_cases z : i < k
  · rw [es_del_o (by omega), es_del_o (by omega)]
    exact H i (by omega)
  · rw [es_del_i (by omega) (by omega), es_del_i (by omega) (by omega)]
    exact H (i + 1) (by omega)
/-- where the place i of a row lay before a delete -/
theorem es_del_w {b n k : Nat} (rp : Nat → Int32) (hk : k < n) (i : Nat) (hi : i < n - 1) : ∃ i', i' < n ∧ i' ≠ k ∧ (i < k → i' = i) ∧ (k ≤ i → i' = i + 1) ∧ es_del rp (b + k) (b + (n - 1)) (b + i) = rp (b + i') := by
  by_cases z : i < k
  · exact ⟨i, by omega, by omega, fun _ => rfl, fun _ => by omega, es_del_o (by omega)⟩
  · exact ⟨i + 1, by omega, by omega, fun _ => by omega, fun _ => rfl, es_del_i (by omega) (by omega)⟩
theorem es_Dis_d {b n k : Nat} {rp : Nat → Int32} (H : es_Dis b n rp) (hk : k < n) : es_Dis b (n - 1) (es_del rp (b + k) (b + (n - 1))) := by
  intro i j hi hj e
  obtain ⟨i', a1, a2, a3, a4, a5⟩ := es_del_w (b := b) rp hk i hi
  obtain ⟨j', b1, b2, b3, b4, b5⟩ := es_del_w (b := b) rp hk j hj
  rw [a5, b5] at e
  have := H i' j' a1 b1 e
  omega
theorem es_Dis_c {b n : Nat} {rp rp' : Nat → Int32} (H : es_Dis b n rp) (h : ∀ i, i < n → rp' (b + i) = rp (b + i)) : es_Dis b n rp' := by
  intro i j hi hj e
  rw [h i hi, h j hj] at e
  exact H i j hi hj e
theorem es_Di2_c {b n b' n' : Nat} {rp rp' : Nat → Int32} (H : es_Di2 b n b' n' rp) (h : ∀ i, i < n → rp' (b + i) = rp (b + i)) (h' : ∀ i, i < n' → rp' (b' + i) = rp (b' + i)) : es_Di2 b n b' n' rp' := by
  intro i j hi hj e
  rw [h i hi, h' j hj] at e
  exact H i j hi hj e
theorem es_Srt_c {b n : Nat} {rp rp' : Nat → Int32} (H : es_Srt b n rp) (h : ∀ i, i < n → rp' (b + i) = rp (b + i)) : es_Srt b n rp' := by
  intro i j hi hj
  rw [h i (by omega), h j hj]
  exact H i j hi hj
theorem es_upc {f : Nat → Int32} {a b : Nat} {x y : Int32} (h : a ≠ b) : upd (upd f a x) b y = upd (upd f b y) a x := by
  funext j
  by_cases e : j = b
  · subst e
    rw [pk_us, pk_un (fun z => h z.symm), pk_us]
  · rw [pk_un e]
    by_cases g : j = a
    · subst g; rw [pk_us, pk_us]
    · rw [pk_un g, pk_un g, pk_un e]
theorem es_del_u {r : Nat → Int32} {a b w : Nat} {x : Int32} (h : b < w) : es_del (upd r w x) a b = upd (es_del r a b) w x := by
  funext j
  by_cases e : j = w
  · subst e
    rw [pk_us, es_del_o (by omega), pk_us]
  · rw [pk_un e]
    by_cases z : a ≤ j ∧ j < b
    · rw [es_del_i z.1 z.2, es_del_i z.1 z.2, pk_un (by omega)]
    · rw [es_del_o (by omega), es_del_o (by omega), pk_un e]
end
end
section
section
/-! programs: what an instruction takes and gives, and what the check leaves known -/
def es_tk (o : Nat) : Nat := if o < 4 then 0 else if o < 8 then 2 else if o < 11 then 1 else if o = 12 then 1 else 0
def es_gv (o : Nat) : Nat := if o < 8 then 1 else if o = 8 then 2 else 0
def es_fit (o : Nat) (c : Int32) (i n : Nat) : Prop :=
  (o = 3 ∨ o = 9 → ∃ t, t < 2 ∧ c = nI t) ∧ (o = 10 ∨ o = 11 → ∃ t, i < t ∧ t ≤ n ∧ c = nI t) ∧ (o = 12 → ∃ t, t < 40 ∧ c = nI t)
/-- the instruction at i is met with height h, and its followers with what it leaves, or torn where tear allows -/
def es_Ins (n : Nat) (op wi M : Nat → Int32) (T : Prop) (i h : Nat) : Prop :=
  ∃ o, o < 14 ∧ op i = nI o ∧ es_fit o (wi i) i n ∧ es_tk o ≤ h ∧ h - es_tk o + es_gv o ≤ 4 ∧
    (∀ t, (o = 10 ∨ o = 11) → t ≤ n → wi i = nI t → M t = nI (h - es_tk o + es_gv o) ∨ (M t = -2 ∧ (T ∨ t = n))) ∧
    (o ≠ 11 → o ≠ 13 → M (i + 1) = nI (h - es_tk o + es_gv o) ∨ (M (i + 1) = -2 ∧ (T ∨ i + 1 = n)))
def es_OK (n : Nat) (op wi : Nat → Int32) : Prop :=
  ∃ M : Nat → Int32, M 0 = 0 ∧ ∀ i h, i < n → h ≤ 4 → M i = nI h → es_Ins n op wi M False i h
/-- as far as the check has come -/
def es_Chk (n i : Nat) (op wi M : Nat → Int32) : Prop :=
  M 0 = 0 ∧ (∀ j, j ≤ n → M j = -1 ∨ M j = -2 ∨ ∃ h, h ≤ 4 ∧ M j = nI h) ∧ (∀ j, j < i → ¬ M j = -2) ∧
  (∀ j h, j < i → h ≤ 4 → M j = nI h → es_Ins n op wi M True j h)
def es_met (M : Nat → Int32) (j b : Nat) : Nat → Int32 := upd M j (if M j = -1 then nI b else if M j = nI b then nI b else -2)
theorem es_m2n {h : Nat} (hh : h < 2 ^ 31) : ¬ (-2 : Int32) = nI h := by
  intro e
  have := nI_pos (n := h) hh
  rw [← e] at this
  exact this (by decide)
theorem es_m1n {h : Nat} (hh : h < 2 ^ 31) : ¬ (-1 : Int32) = nI h := by
  intro e
  have := nI_pos (n := h) hh
  rw [← e] at this
  exact this (by decide)
theorem es_met_o {M : Nat → Int32} {j b k : Nat} (h : k ≠ j) : es_met M j b k = M k := pk_un h
/-- at the place itself: met with b, or torn -/
theorem es_met_s {M : Nat → Int32} {j b : Nat} : es_met M j b j = nI b ∨ es_met M j b j = -2 := by
  unfold es_met
  rw [pk_us]
  split
  · exact Or.inl rfl
  · split
    · exact Or.inl rfl
    · exact Or.inr rfl
/-- what was met or torn stays so, or is torn -/
theorem es_met_k {M : Nat → Int32} {j b k h : Nat} (hh : h < 2 ^ 31) (hm : M k = nI h ∨ M k = -2) : es_met M j b k = nI h ∨ es_met M j b k = -2 := by
  by_cases e : k = j
  · subst e
    unfold es_met
    rw [pk_us]
    rcases hm with hm | hm
    · rw [if_neg (by rw [hm]; exact fun z => es_m1n hh z.symm)]
      split
      · rename_i z; rw [← z]; exact Or.inl hm
      · exact Or.inr rfl
    · rw [if_neg (by rw [hm]; decide)]
      split
      · rename_i z; rw [← z]; exact Or.inr hm
      · exact Or.inr rfl
  · rw [es_met_o e]; exact hm
theorem es_met_r {M : Nat → Int32} {j b n : Nat} (hb : b ≤ 4) (h : ∀ k, k ≤ n → M k = -1 ∨ M k = -2 ∨ ∃ h, h ≤ 4 ∧ M k = nI h) : ∀ k, k ≤ n → es_met M j b k = -1 ∨ es_met M j b k = -2 ∨ ∃ h, h ≤ 4 ∧ es_met M j b k = nI h := by
  intro k hk
  by_cases e : k = j
  · subst e
    rcases es_met_s (M := M) (j := k) (b := b) with z | z
    · exact Or.inr (Or.inr ⟨b, hb, z⟩)
    · exact Or.inr (Or.inl z)
  · rw [es_met_o e]; exact h k hk
/-- a further meeting ahead keeps what is known of an instruction -/
theorem es_Ins_met {n j b i h : Nat} {op wi M : Nat → Int32} (hh : h ≤ 4) (H : es_Ins n op wi M True i h) : es_Ins n op wi (es_met M j b) True i h := by
  obtain ⟨o, h1, h2, h3, h4, h5, h6, h7⟩ := H
  refine ⟨o, h1, h2, h3, h4, h5, fun t g1 g2 g3 => ?_, fun g1 g2 => ?_⟩
  · have := h6 t g1 g2 g3
    rcases es_met_k (j := j) (b := b) (h := h - es_tk o + es_gv o) (by omega) (this.imp id And.left) with z | z
    · exact Or.inl z
    · exact Or.inr ⟨z, Or.inl trivial⟩
  · have := h7 g1 g2
    rcases es_met_k (j := j) (b := b) (h := h - es_tk o + es_gv o) (by omega) (this.imp id And.left) with z | z
    · exact Or.inl z
    · exact Or.inr ⟨z, Or.inl trivial⟩
theorem es_Chk_met {n i j b : Nat} {op wi M : Nat → Int32} (hb : b ≤ 4) (hj : i ≤ j) (h0 : 0 < j) (H : es_Chk n i op wi M) : es_Chk n i op wi (es_met M j b) := by
  obtain ⟨h1, h2, h3, h4⟩ := H
  refine ⟨?_, es_met_r hb h2, fun k hk => ?_, fun k h hk hh e => ?_⟩
  · rw [es_met_o (by omega)]; exact h1
  · rw [es_met_o (by omega)]; exact h3 k hk
  · rw [es_met_o (by omega)] at e
    exact es_Ins_met hh (h4 k h hk hh e)
/-- an instruction that is not met -/
theorem es_Chk_un {n i : Nat} {op wi M : Nat → Int32} (H : es_Chk n i op wi M) (e : M i = -1) : es_Chk n (i + 1) op wi M := by
  obtain ⟨h1, h2, h3, h4⟩ := H
  refine ⟨h1, h2, fun k hk => ?_, fun k h hk hh z => ?_⟩
  · by_cases g : k = i
    · rw [g, e]; decide
    · exact h3 k (by omega)
  · by_cases g : k = i
    · rw [g, e] at z
      exact absurd z (es_m1n (by omega))
    · exact h4 k h (by omega) hh z
/-- an instruction that is met, after its followers have been met too -/
theorem es_Chk_in {n i h : Nat} {op wi M : Nat → Int32} (H : es_Chk n i op wi M) (e : M i = nI h) (hh : h ≤ 4) (hI : es_Ins n op wi M True i h) : es_Chk n (i + 1) op wi M := by
  obtain ⟨h1, h2, h3, h4⟩ := H
  refine ⟨h1, h2, fun k hk => ?_, fun k h' hk hh' z => ?_⟩
  · by_cases g : k = i
    · rw [g, e]; exact fun z => es_m2n (by omega) z.symm
    · exact h3 k (by omega)
  · by_cases g : k = i
    · subst g
      rw [e] at z
      have := es_inj z (by omega) (by omega)
      subst this
      exact hI
    · exact h4 k h' (by omega) hh' z
theorem es_Chk_end {n : Nat} {op wi M : Nat → Int32} (H : es_Chk n n op wi M) : es_OK n op wi := by
  obtain ⟨h1, h2, h3, h4⟩ := H
  refine ⟨M, h1, fun i h hi hh e => ?_⟩
  obtain ⟨o, g1, g2, g3, g4, g5, g6, g7⟩ := h4 i h hi hh e
  refine ⟨o, g1, g2, g3, g4, g5, fun t a1 a2 a3 => ?_, fun a1 a2 => ?_⟩
  · rcases g6 t a1 a2 a3 with z | z
    · exact Or.inl z
    · by_cases w : t = n
      · exact Or.inr ⟨z.1, Or.inr w⟩
      · exact absurd z.1 (h3 t (by omega))
  · rcases g7 a1 a2 with z | z
    · exact Or.inl z
    · by_cases w : i + 1 = n
      · exact Or.inr ⟨z.1, Or.inr w⟩
      · exact absurd z.1 (h3 (i + 1) (by omega))
/-- a copy of the program has the same -/
theorem es_OK_c {n : Nat} {op wi op' wi' : Nat → Int32} (H : es_OK n op wi) (h : ∀ i, i < n → op' i = op i ∧ wi' i = wi i) : es_OK n op' wi' := by
  obtain ⟨M, h1, h2⟩ := H
  refine ⟨M, h1, fun i h' hi hh e => ?_⟩
  obtain ⟨o, g1, g2, g3, g4, g5, g6, g7⟩ := h2 i h' hi hh e
  rw [← (h i hi).1] at g2
  rw [← (h i hi).2] at g3 g6
  exact ⟨o, g1, g2, g3, g4, g5, g6, g7⟩
end
end
section
section
/-! one group -/
def es_Grp (c f g nt nw nk u k : Nat) (cu kc rn rp rt rd cv mn wh oft du : Nat → Int32) : Prop :=
  (u ≤ c ∧ k ≤ f ∧ nt + nw ≤ 6 ∧ nk ≤ 6) ∧
  (cu g = nI u ∧ cv g = nI u ∧ kc g = nI k ∧ cv (2 + g) = nI k) ∧
  (rn (3 * g) = nI nt ∧ mn g = nI nt ∧ rn (3 * g + 1) = nI nw ∧ mn (2 + g) = nI nw ∧ rn (3 * g + 2) = nI nk ∧ mn (4 + g) = nI nk) ∧
  es_Row (18 * g) (8 * g) nt u rp rt wh oft ∧ es_Due (18 * g) (8 * g) nt rd du ∧
  es_Row (18 * g + 6) (16 + 8 * g) nw u rp rt wh oft ∧
  es_Row (18 * g + 12) (32 + 8 * g) nk k rp rt wh oft ∧
  es_Dis (18 * g) nt rp ∧ es_Dis (18 * g + 6) nw rp ∧ es_Di2 (18 * g) nt (18 * g + 6) nw rp ∧
  es_Srt (18 * g + 12) nk rp
variable {c f g nt nw nk u k : Nat} {cu kc rn rp rt rd cv mn wh oft du : Nat → Int32}
theorem es_Di2_d {b n b' n' i : Nat} (H : es_Di2 b n b' n' rp) (hi : i < n) (hd : b' + n' ≤ b ∨ b + n ≤ b') : es_Di2 b (n - 1) b' n' (es_del rp (b + i) (b + (n - 1))) := by
  intro x y hx hy e
  obtain ⟨x', a1, a2, a3, a4, a5⟩ := es_del_w (b := b) rp hi x hx
  rw [a5, es_del_o (by omega)] at e
  exact H x' y a1 hy e
theorem es_Di2_d' {b n b' n' i : Nat} (H : es_Di2 b n b' n' rp) (hi : i < n') (hd : b' + n' ≤ b ∨ b + n ≤ b') : es_Di2 b n b' (n' - 1) (es_del rp (b' + i) (b' + (n' - 1))) := by
  intro x y hx hy e
  obtain ⟨y', a1, a2, a3, a4, a5⟩ := es_del_w (b := b') rp hi y hy
  rw [a5, es_del_o (by omega)] at e
  exact H x y' hx a1 e
theorem es_Grp_m {c' f' : Nat} (H : es_Grp c f g nt nw nk u k cu kc rn rp rt rd cv mn wh oft du) (hc : u ≤ c') (hf : k ≤ f') : es_Grp c' f' g nt nw nk u k cu kc rn rp rt rd cv mn wh oft du := by
  obtain ⟨h0, h1⟩ := H
  exact ⟨⟨hc, hf, h0.2.2⟩, h1⟩
/-- what happens elsewhere leaves the group as it is -/
theorem es_Grp_c {cu' kc' rn' rp' rt' rd' cv' mn' wh' oft' du' : Nat → Int32} (H : es_Grp c f g nt nw nk u k cu kc rn rp rt rd cv mn wh oft du)
    (h1 : cu' g = cu g ∧ cv' g = cv g ∧ kc' g = kc g ∧ cv' (2 + g) = cv (2 + g))
    (h2 : ∀ i, i < 3 → rn' (3 * g + i) = rn (3 * g + i))
    (h3 : mn' g = mn g ∧ mn' (2 + g) = mn (2 + g) ∧ mn' (4 + g) = mn (4 + g))
    (h4 : ∀ i, i < 18 → rp' (18 * g + i) = rp (18 * g + i) ∧ rt' (18 * g + i) = rt (18 * g + i) ∧ rd' (18 * g + i) = rd (18 * g + i))
    (h5 : ∀ m i, m < 3 → i < 8 → wh' (16 * m + 8 * g + i) = wh (16 * m + 8 * g + i) ∧ oft' (16 * m + 8 * g + i) = oft (16 * m + 8 * g + i) ∧ du' (16 * m + 8 * g + i) = du (16 * m + 8 * g + i)) :
    es_Grp c f g nt nw nk u k cu' kc' rn' rp' rt' rd' cv' mn' wh' oft' du' := by
  obtain ⟨a0, a1, a2, a3, a4, a5, a6, a7, a8, a9, a10⟩ := H
  have p0 : ∀ i, i < nt → rp' (18 * g + i) = rp (18 * g + i) := fun i hi => (h4 i (by omega)).1
  have p1 : ∀ i, i < nw → rp' (18 * g + 6 + i) = rp (18 * g + 6 + i) := fun i hi => by
    rw [Nat.add_assoc]; exact (h4 (6 + i) (by omega)).1
  have p2 : ∀ i, i < nk → rp' (18 * g + 12 + i) = rp (18 * g + 12 + i) := fun i hi => by
    rw [Nat.add_assoc]; exact (h4 (12 + i) (by omega)).1
  refine ⟨a0, ?_, ?_, es_Row_c a3 (fun i hi => ?_), fun i hi => ?_, es_Row_c a5 (fun i hi => ?_), es_Row_c a6 (fun i hi => ?_), es_Dis_c a7 p0, es_Dis_c a8 p1, es_Di2_c a9 p0 p1, es_Srt_c a10 p2⟩
  · rw [h1.1, h1.2.1, h1.2.2.1, h1.2.2.2]; exact a1
  · have q0 := h2 0 (by omega)
    rw [Nat.add_zero] at q0
    rw [q0, h2 1 (by omega), h2 2 (by omega), h3.1, h3.2.1, h3.2.2]; exact a2
  · have q := h5 0 i (by omega) (by omega)
    rw [show 16 * 0 + 8 * g + i = 8 * g + i by omega] at q
    have r := h4 i (by omega)
    exact ⟨r.1, r.2.1, q.1, q.2.1⟩
  · have q := h5 0 i (by omega) (by omega)
    rw [show 16 * 0 + 8 * g + i = 8 * g + i by omega] at q
    have r := h4 i (by omega)
    rw [q.2.2, r.2.2]
    exact a4 i hi
  · have q := h5 1 i (by omega) (by omega)
    rw [show 16 * 1 + 8 * g + i = 16 + 8 * g + i by omega] at q
    have r := h4 (6 + i) (by omega)
    rw [← Nat.add_assoc] at r
    exact ⟨r.1, r.2.1, q.1, q.2.1⟩
  · have q := h5 2 i (by omega) (by omega)
    rw [show 16 * 2 + 8 * g + i = 32 + 8 * g + i by omega] at q
    have r := h4 (12 + i) (by omega)
    rw [← Nat.add_assoc] at r
    exact ⟨r.1, r.2.1, q.1, q.2.1⟩
/-- a TAKEN event goes -/
theorem es_Grp_dt {i : Nat} (H : es_Grp c f g nt nw nk u k cu kc rn rp rt rd cv mn wh oft du) (hi : i < nt) (hg : g < 2) :
    es_Grp c f g (nt - 1) nw nk u k cu kc (upd rn (3 * g) (nI (nt - 1))) (es_del rp (18 * g + i) (18 * g + (nt - 1))) (es_del rt (18 * g + i) (18 * g + (nt - 1))) (es_del rd (18 * g + i) (18 * g + (nt - 1)))
      cv (upd mn g (nI (nt - 1))) (es_del wh (8 * g + i) (8 * g + (nt - 1))) (es_del oft (8 * g + i) (8 * g + (nt - 1))) (es_del du (8 * g + i) (8 * g + (nt - 1))) := by
  obtain ⟨a0, a1, a2, a3, a4, a5, a6, a7, a8, a9, a10⟩ := H
  refine ⟨⟨a0.1, a0.2.1, by omega, a0.2.2.2⟩, a1, ?_, es_Row_d a3 hi, es_Due_d a4 hi, es_Row_c a5 (fun j hj => ?_), es_Row_c a6 (fun j hj => ?_), es_Dis_d a7 hi, es_Dis_c a8 (fun j hj => ?_), es_Di2_d a9 hi (by omega), es_Srt_c a10 (fun j hj => ?_)⟩
  · rw [pk_us, pk_us, pk_un (by omega), pk_un (by omega), pk_un (by omega), pk_un (by omega)]
    exact ⟨rfl, rfl, a2.2.2⟩
  · rw [es_del_o (by omega), es_del_o (by omega), es_del_o (by omega), es_del_o (by omega)]; exact ⟨rfl, rfl, rfl, rfl⟩
  · rw [es_del_o (by omega), es_del_o (by omega), es_del_o (by omega), es_del_o (by omega)]; exact ⟨rfl, rfl, rfl, rfl⟩
  · rw [es_del_o (by omega)]
  · rw [es_del_o (by omega)]
/-- a WAITING event goes -/
theorem es_Grp_dw {i : Nat} (H : es_Grp c f g nt nw nk u k cu kc rn rp rt rd cv mn wh oft du) (hi : i < nw) (hg : g < 2) :
    es_Grp c f g nt (nw - 1) nk u k cu kc (upd rn (3 * g + 1) (nI (nw - 1))) (es_del rp (18 * g + 6 + i) (18 * g + 6 + (nw - 1))) (es_del rt (18 * g + 6 + i) (18 * g + 6 + (nw - 1))) (es_del rd (18 * g + 6 + i) (18 * g + 6 + (nw - 1)))
      cv (upd mn (2 + g) (nI (nw - 1))) (es_del wh (16 + 8 * g + i) (16 + 8 * g + (nw - 1))) (es_del oft (16 + 8 * g + i) (16 + 8 * g + (nw - 1))) (es_del du (16 + 8 * g + i) (16 + 8 * g + (nw - 1))) := by
  obtain ⟨a0, a1, a2, a3, a4, a5, a6, a7, a8, a9, a10⟩ := H
  refine ⟨⟨a0.1, a0.2.1, by omega, a0.2.2.2⟩, a1, ?_, es_Row_c a3 (fun j hj => ?_), fun j hj => ?_, es_Row_d a5 hi, es_Row_c a6 (fun j hj => ?_), es_Dis_c a7 (fun j hj => ?_), es_Dis_d a8 hi, es_Di2_d' a9 hi (by omega), es_Srt_c a10 (fun j hj => ?_)⟩
  · rw [pk_us, pk_us, pk_un (by omega), pk_un (by omega), pk_un (by omega), pk_un (by omega)]
    exact ⟨a2.1, a2.2.1, rfl, rfl, a2.2.2.2.2⟩
  · rw [es_del_o (by omega), es_del_o (by omega), es_del_o (by omega), es_del_o (by omega)]; exact ⟨rfl, rfl, rfl, rfl⟩
  · rw [es_del_o (by omega), es_del_o (by omega)]; exact a4 j hj
  · rw [es_del_o (by omega), es_del_o (by omega), es_del_o (by omega), es_del_o (by omega)]; exact ⟨rfl, rfl, rfl, rfl⟩
  · rw [es_del_o (by omega)]
  · rw [es_del_o (by omega)]
/-- an event comes to the WAITING ones -/
theorem es_Grp_aw {a : Nat} {tm : Int32} (H : es_Grp c f g nt nw nk u k cu kc rn rp rt rd cv mn wh oft du) (hn : nt + nw < 6) (hg : g < 2) (ha : a < u)
    (d1 : ∀ i, i < nt → ¬ rp (18 * g + i) = nI a) (d2 : ∀ i, i < nw → ¬ rp (18 * g + 6 + i) = nI a) :
    es_Grp c f g nt (nw + 1) nk u k cu kc (upd rn (3 * g + 1) (nI (nw + 1))) (upd rp (18 * g + 6 + nw) (nI a)) (upd rt (18 * g + 6 + nw) tm) rd
      cv (upd mn (2 + g) (nI (nw + 1))) (upd wh (16 + 8 * g + nw) (nI a)) (upd oft (16 + 8 * g + nw) tm) du := by
  obtain ⟨a0, a1, a2, a3, a4, a5, a6, a7, a8, a9, a10⟩ := H
  refine ⟨⟨a0.1, a0.2.1, by omega, a0.2.2.2⟩, a1, ?_, es_Row_c a3 (fun j hj => ?_), a4, fun j hj => ?_, es_Row_c a6 (fun j hj => ?_), es_Dis_c a7 (fun j hj => ?_), fun x y hx hy e => ?_, fun x y hx hy e => ?_, es_Srt_c a10 (fun j hj => ?_)⟩
  · rw [pk_us, pk_us, pk_un (by omega), pk_un (by omega), pk_un (by omega), pk_un (by omega)]
    exact ⟨a2.1, a2.2.1, rfl, rfl, a2.2.2.2.2⟩
  · rw [pk_un (by omega), pk_un (by omega), pk_un (by omega), pk_un (by omega)]; exact ⟨rfl, rfl, rfl, rfl⟩
  · by_cases z : j = nw
    · subst z
      rw [pk_us, pk_us, pk_us, pk_us]
      exact ⟨⟨a, ha, rfl⟩, rfl, rfl⟩
    · rw [pk_un (by omega), pk_un (by omega), pk_un (by omega), pk_un (by omega)]
      exact a5 j (by omega)
  · rw [pk_un (by omega), pk_un (by omega), pk_un (by omega), pk_un (by omega)]; exact ⟨rfl, rfl, rfl, rfl⟩
  · rw [pk_un (by omega)]
  · by_cases zx : x = nw
    · by_cases zy : y = nw
      · omega
      · rw [zx, pk_us, pk_un (by omega)] at e
        exact absurd e.symm (d2 y (by omega))
    · by_cases zy : y = nw
      · rw [zy, pk_us, pk_un (by omega)] at e
        exact absurd e (d2 x (by omega))
      · rw [pk_un (by omega), pk_un (by omega)] at e
        exact a8 x y (by omega) (by omega) e
  · rw [pk_un (by omega)] at e
    by_cases zy : y = nw
    · rw [zy, pk_us] at e
      exact d1 x hx e
    · rw [pk_un (by omega)] at e
      exact a9 x y hx (by omega) e
  · rw [pk_un (by omega)]
/-- an event is TAKEN -/
theorem es_Grp_at {a : Nat} {tm dv : Int32} (H : es_Grp c f g nt nw nk u k cu kc rn rp rt rd cv mn wh oft du) (hn : nt + nw < 6) (hg : g < 2) (ha : a < u)
    (d1 : ∀ i, i < nt → ¬ rp (18 * g + i) = nI a) (d2 : ∀ i, i < nw → ¬ rp (18 * g + 6 + i) = nI a) :
    es_Grp c f g (nt + 1) nw nk u k cu kc (upd rn (3 * g) (nI (nt + 1))) (upd rp (18 * g + nt) (nI a)) (upd rt (18 * g + nt) tm) (upd rd (18 * g + nt) dv)
      cv (upd mn g (nI (nt + 1))) (upd wh (8 * g + nt) (nI a)) (upd oft (8 * g + nt) tm) (upd du (8 * g + nt) dv) := by
  obtain ⟨a0, a1, a2, a3, a4, a5, a6, a7, a8, a9, a10⟩ := H
  refine ⟨⟨a0.1, a0.2.1, by omega, a0.2.2.2⟩, a1, ?_, fun j hj => ?_, fun j hj => ?_, es_Row_c a5 (fun j hj => ?_), es_Row_c a6 (fun j hj => ?_), fun x y hx hy e => ?_, es_Dis_c a8 (fun j hj => ?_), fun x y hx hy e => ?_, es_Srt_c a10 (fun j hj => ?_)⟩
  · rw [pk_us, pk_us, pk_un (by omega), pk_un (by omega), pk_un (by omega), pk_un (by omega)]
    exact ⟨rfl, rfl, a2.2.2⟩
  · by_cases z : j = nt
    · subst z
      rw [pk_us, pk_us, pk_us, pk_us]
      exact ⟨⟨a, ha, rfl⟩, rfl, rfl⟩
    · rw [pk_un (by omega), pk_un (by omega), pk_un (by omega), pk_un (by omega)]
      exact a3 j (by omega)
  · by_cases z : j = nt
    · subst z
      rw [pk_us, pk_us]
    · rw [pk_un (by omega), pk_un (by omega)]
      exact a4 j (by omega)
  · rw [pk_un (by omega), pk_un (by omega), pk_un (by omega), pk_un (by omega)]; exact ⟨rfl, rfl, rfl, rfl⟩
  · rw [pk_un (by omega), pk_un (by omega), pk_un (by omega), pk_un (by omega)]; exact ⟨rfl, rfl, rfl, rfl⟩
  · by_cases zx : x = nt
    · by_cases zy : y = nt
      · omega
      · rw [zx, pk_us, pk_un (by omega)] at e
        exact absurd e.symm (d1 y (by omega))
    · by_cases zy : y = nt
      · rw [zy, pk_us, pk_un (by omega)] at e
        exact absurd e (d1 x (by omega))
      · rw [pk_un (by omega), pk_un (by omega)] at e
        exact a7 x y (by omega) (by omega) e
  · rw [pk_un (by omega)]
  · rw [pk_un (j := 18 * g + 6 + y) (by omega)] at e
    by_cases zx : x = nt
    · rw [zx, pk_us] at e
      exact d2 y hy e.symm
    · rw [pk_un (by omega)] at e
      exact a9 x y (by omega) hy e
  · rw [pk_un (by omega)]
/-- the cursor goes on -/
theorem es_Grp_cu {u' : Nat} (H : es_Grp c f g nt nw nk u k cu kc rn rp rt rd cv mn wh oft du) (h1 : u ≤ u') (h2 : u' ≤ c) (hg : g < 2) :
    es_Grp c f g nt nw nk u' k (upd cu g (nI u')) kc rn rp rt rd (upd cv g (nI u')) mn wh oft du := by
  obtain ⟨a0, a1, a2, a3, a4, a5, a6, a7⟩ := H
  refine ⟨⟨h2, a0.2⟩, ?_, a2, es_Row_m a3 h1, a4, es_Row_m a5 h1, a6, a7⟩
  rw [pk_us, pk_us, pk_un (by omega)]
  exact ⟨rfl, rfl, a1.2.2⟩
end
end
section
section
/-! comparisons with literals -/
theorem el_a0 {a : Nat} (h : a < 2 ^ 31) : (0 : Int32) ≤ nI a ↔ 0 ≤ a := nI_leI (a := 0) (by decide) h
theorem el_b0 {a : Nat} (h : a < 2 ^ 31) : nI a ≤ (0 : Int32) ↔ a ≤ 0 := nI_leI (b := 0) h (by decide)
theorem el_c0 {a : Nat} (h : a < 2 ^ 31) : (0 : Int32) < nI a ↔ 0 < a := nI_ltI (a := 0) (by decide) h
theorem el_d0 {a : Nat} (h : a < 2 ^ 31) : nI a < (0 : Int32) ↔ a < 0 := nI_ltI (b := 0) h (by decide)
theorem el_e0 {a : Nat} (h : a < 2 ^ 31) : nI a = (0 : Int32) ↔ a = 0 := nI_eq (b := 0) h (by decide)
theorem el_f0 {a : Nat} (h : a < 2 ^ 31) : (0 : Int32) = nI a ↔ 0 = a := nI_eq (a := 0) (by decide) h
theorem eb_a0 {a : Nat} (h : 0 ≤ a) (g : a < 2 ^ 31) : ((0 : Int32) ≤ nI a) = True := eq_true ((el_a0 g).mpr h)
theorem eb_b0 {a : Nat} (h : a < 0) : ((0 : Int32) ≤ nI a) = False := eq_false (fun z => by have := (el_a0 (by omega)).mp z; omega)
theorem eb_c0 {a : Nat} (h : a ≤ 0) : (nI a ≤ (0 : Int32)) = True := eq_true ((el_b0 (by omega)).mpr h)
theorem eb_d0 {a : Nat} (h : 0 < a) (g : a < 2 ^ 31) : (nI a ≤ (0 : Int32)) = False := eq_false (fun z => by have := (el_b0 g).mp z; omega)
theorem eb_e0 {a : Nat} (h : 0 < a) (g : a < 2 ^ 31) : ((0 : Int32) < nI a) = True := eq_true ((el_c0 g).mpr h)
theorem eb_f0 {a : Nat} (h : a ≤ 0) : ((0 : Int32) < nI a) = False := eq_false (fun z => by have := (el_c0 (by omega)).mp z; omega)
theorem eb_g0 {a : Nat} (h : a < 0) : (nI a < (0 : Int32)) = True := eq_true ((el_d0 (by omega)).mpr h)
theorem eb_h0 {a : Nat} (h : 0 ≤ a) (g : a < 2 ^ 31) : (nI a < (0 : Int32)) = False := eq_false (fun z => by have := (el_d0 g).mp z; omega)
theorem eb_i0 {a : Nat} (h : a = 0) : (nI a = (0 : Int32)) = True := eq_true ((el_e0 (by omega)).mpr h)
theorem eb_j0 {a : Nat} (h : a ≠ 0) (g : a < 2 ^ 31) : (nI a = (0 : Int32)) = False := eq_false (fun z => h ((el_e0 g).mp z))
theorem el_g0 (a : Nat) : nI a + (0 : Int32) = nI (a + 0) := nI_add a 0
theorem el_h0 (a : Nat) : (0 : Int32) + nI a = nI (0 + a) := nI_add 0 a
theorem el_i0 (a : Nat) : nI a * (0 : Int32) = nI (a * 0) := pk_mul a 0
theorem el_j0 (a : Nat) : (0 : Int32) * nI a = nI (0 * a) := pk_mul 0 a
theorem el_a1 {a : Nat} (h : a < 2 ^ 31) : (1 : Int32) ≤ nI a ↔ 1 ≤ a := nI_leI (a := 1) (by decide) h
theorem el_b1 {a : Nat} (h : a < 2 ^ 31) : nI a ≤ (1 : Int32) ↔ a ≤ 1 := nI_leI (b := 1) h (by decide)
theorem el_c1 {a : Nat} (h : a < 2 ^ 31) : (1 : Int32) < nI a ↔ 1 < a := nI_ltI (a := 1) (by decide) h
theorem el_d1 {a : Nat} (h : a < 2 ^ 31) : nI a < (1 : Int32) ↔ a < 1 := nI_ltI (b := 1) h (by decide)
theorem el_e1 {a : Nat} (h : a < 2 ^ 31) : nI a = (1 : Int32) ↔ a = 1 := nI_eq (b := 1) h (by decide)
theorem el_f1 {a : Nat} (h : a < 2 ^ 31) : (1 : Int32) = nI a ↔ 1 = a := nI_eq (a := 1) (by decide) h
theorem eb_a1 {a : Nat} (h : 1 ≤ a) (g : a < 2 ^ 31) : ((1 : Int32) ≤ nI a) = True := eq_true ((el_a1 g).mpr h)
theorem eb_b1 {a : Nat} (h : a < 1) : ((1 : Int32) ≤ nI a) = False := eq_false (fun z => by have := (el_a1 (by omega)).mp z; omega)
theorem eb_c1 {a : Nat} (h : a ≤ 1) : (nI a ≤ (1 : Int32)) = True := eq_true ((el_b1 (by omega)).mpr h)
theorem eb_d1 {a : Nat} (h : 1 < a) (g : a < 2 ^ 31) : (nI a ≤ (1 : Int32)) = False := eq_false (fun z => by have := (el_b1 g).mp z; omega)
theorem eb_e1 {a : Nat} (h : 1 < a) (g : a < 2 ^ 31) : ((1 : Int32) < nI a) = True := eq_true ((el_c1 g).mpr h)
theorem eb_f1 {a : Nat} (h : a ≤ 1) : ((1 : Int32) < nI a) = False := eq_false (fun z => by have := (el_c1 (by omega)).mp z; omega)
theorem eb_g1 {a : Nat} (h : a < 1) : (nI a < (1 : Int32)) = True := eq_true ((el_d1 (by omega)).mpr h)
theorem eb_h1 {a : Nat} (h : 1 ≤ a) (g : a < 2 ^ 31) : (nI a < (1 : Int32)) = False := eq_false (fun z => by have := (el_d1 g).mp z; omega)
theorem eb_i1 {a : Nat} (h : a = 1) : (nI a = (1 : Int32)) = True := eq_true ((el_e1 (by omega)).mpr h)
theorem eb_j1 {a : Nat} (h : a ≠ 1) (g : a < 2 ^ 31) : (nI a = (1 : Int32)) = False := eq_false (fun z => h ((el_e1 g).mp z))
theorem el_g1 (a : Nat) : nI a + (1 : Int32) = nI (a + 1) := nI_add a 1
theorem el_h1 (a : Nat) : (1 : Int32) + nI a = nI (1 + a) := nI_add 1 a
theorem el_i1 (a : Nat) : nI a * (1 : Int32) = nI (a * 1) := pk_mul a 1
theorem el_j1 (a : Nat) : (1 : Int32) * nI a = nI (1 * a) := pk_mul 1 a
theorem el_a2 {a : Nat} (h : a < 2 ^ 31) : (2 : Int32) ≤ nI a ↔ 2 ≤ a := nI_leI (a := 2) (by decide) h
theorem el_b2 {a : Nat} (h : a < 2 ^ 31) : nI a ≤ (2 : Int32) ↔ a ≤ 2 := nI_leI (b := 2) h (by decide)
theorem el_c2 {a : Nat} (h : a < 2 ^ 31) : (2 : Int32) < nI a ↔ 2 < a := nI_ltI (a := 2) (by decide) h
theorem el_d2 {a : Nat} (h : a < 2 ^ 31) : nI a < (2 : Int32) ↔ a < 2 := nI_ltI (b := 2) h (by decide)
theorem el_e2 {a : Nat} (h : a < 2 ^ 31) : nI a = (2 : Int32) ↔ a = 2 := nI_eq (b := 2) h (by decide)
theorem el_f2 {a : Nat} (h : a < 2 ^ 31) : (2 : Int32) = nI a ↔ 2 = a := nI_eq (a := 2) (by decide) h
theorem eb_a2 {a : Nat} (h : 2 ≤ a) (g : a < 2 ^ 31) : ((2 : Int32) ≤ nI a) = True := eq_true ((el_a2 g).mpr h)
theorem eb_b2 {a : Nat} (h : a < 2) : ((2 : Int32) ≤ nI a) = False := eq_false (fun z => by have := (el_a2 (by omega)).mp z; omega)
theorem eb_c2 {a : Nat} (h : a ≤ 2) : (nI a ≤ (2 : Int32)) = True := eq_true ((el_b2 (by omega)).mpr h)
theorem eb_d2 {a : Nat} (h : 2 < a) (g : a < 2 ^ 31) : (nI a ≤ (2 : Int32)) = False := eq_false (fun z => by have := (el_b2 g).mp z; omega)
theorem eb_e2 {a : Nat} (h : 2 < a) (g : a < 2 ^ 31) : ((2 : Int32) < nI a) = True := eq_true ((el_c2 g).mpr h)
theorem eb_f2 {a : Nat} (h : a ≤ 2) : ((2 : Int32) < nI a) = False := eq_false (fun z => by have := (el_c2 (by omega)).mp z; omega)
theorem eb_g2 {a : Nat} (h : a < 2) : (nI a < (2 : Int32)) = True := eq_true ((el_d2 (by omega)).mpr h)
theorem eb_h2 {a : Nat} (h : 2 ≤ a) (g : a < 2 ^ 31) : (nI a < (2 : Int32)) = False := eq_false (fun z => by have := (el_d2 g).mp z; omega)
theorem eb_i2 {a : Nat} (h : a = 2) : (nI a = (2 : Int32)) = True := eq_true ((el_e2 (by omega)).mpr h)
theorem eb_j2 {a : Nat} (h : a ≠ 2) (g : a < 2 ^ 31) : (nI a = (2 : Int32)) = False := eq_false (fun z => h ((el_e2 g).mp z))
theorem el_g2 (a : Nat) : nI a + (2 : Int32) = nI (a + 2) := nI_add a 2
theorem el_h2 (a : Nat) : (2 : Int32) + nI a = nI (2 + a) := nI_add 2 a
theorem el_i2 (a : Nat) : nI a * (2 : Int32) = nI (a * 2) := pk_mul a 2
theorem el_j2 (a : Nat) : (2 : Int32) * nI a = nI (2 * a) := pk_mul 2 a
theorem el_a3 {a : Nat} (h : a < 2 ^ 31) : (3 : Int32) ≤ nI a ↔ 3 ≤ a := nI_leI (a := 3) (by decide) h
theorem el_b3 {a : Nat} (h : a < 2 ^ 31) : nI a ≤ (3 : Int32) ↔ a ≤ 3 := nI_leI (b := 3) h (by decide)
theorem el_c3 {a : Nat} (h : a < 2 ^ 31) : (3 : Int32) < nI a ↔ 3 < a := nI_ltI (a := 3) (by decide) h
theorem el_d3 {a : Nat} (h : a < 2 ^ 31) : nI a < (3 : Int32) ↔ a < 3 := nI_ltI (b := 3) h (by decide)
theorem el_e3 {a : Nat} (h : a < 2 ^ 31) : nI a = (3 : Int32) ↔ a = 3 := nI_eq (b := 3) h (by decide)
theorem el_f3 {a : Nat} (h : a < 2 ^ 31) : (3 : Int32) = nI a ↔ 3 = a := nI_eq (a := 3) (by decide) h
theorem eb_a3 {a : Nat} (h : 3 ≤ a) (g : a < 2 ^ 31) : ((3 : Int32) ≤ nI a) = True := eq_true ((el_a3 g).mpr h)
theorem eb_b3 {a : Nat} (h : a < 3) : ((3 : Int32) ≤ nI a) = False := eq_false (fun z => by have := (el_a3 (by omega)).mp z; omega)
theorem eb_c3 {a : Nat} (h : a ≤ 3) : (nI a ≤ (3 : Int32)) = True := eq_true ((el_b3 (by omega)).mpr h)
theorem eb_d3 {a : Nat} (h : 3 < a) (g : a < 2 ^ 31) : (nI a ≤ (3 : Int32)) = False := eq_false (fun z => by have := (el_b3 g).mp z; omega)
theorem eb_e3 {a : Nat} (h : 3 < a) (g : a < 2 ^ 31) : ((3 : Int32) < nI a) = True := eq_true ((el_c3 g).mpr h)
theorem eb_f3 {a : Nat} (h : a ≤ 3) : ((3 : Int32) < nI a) = False := eq_false (fun z => by have := (el_c3 (by omega)).mp z; omega)
theorem eb_g3 {a : Nat} (h : a < 3) : (nI a < (3 : Int32)) = True := eq_true ((el_d3 (by omega)).mpr h)
theorem eb_h3 {a : Nat} (h : 3 ≤ a) (g : a < 2 ^ 31) : (nI a < (3 : Int32)) = False := eq_false (fun z => by have := (el_d3 g).mp z; omega)
theorem eb_i3 {a : Nat} (h : a = 3) : (nI a = (3 : Int32)) = True := eq_true ((el_e3 (by omega)).mpr h)
theorem eb_j3 {a : Nat} (h : a ≠ 3) (g : a < 2 ^ 31) : (nI a = (3 : Int32)) = False := eq_false (fun z => h ((el_e3 g).mp z))
theorem el_g3 (a : Nat) : nI a + (3 : Int32) = nI (a + 3) := nI_add a 3
theorem el_h3 (a : Nat) : (3 : Int32) + nI a = nI (3 + a) := nI_add 3 a
theorem el_i3 (a : Nat) : nI a * (3 : Int32) = nI (a * 3) := pk_mul a 3
theorem el_j3 (a : Nat) : (3 : Int32) * nI a = nI (3 * a) := pk_mul 3 a
theorem el_a4 {a : Nat} (h : a < 2 ^ 31) : (4 : Int32) ≤ nI a ↔ 4 ≤ a := nI_leI (a := 4) (by decide) h
theorem el_b4 {a : Nat} (h : a < 2 ^ 31) : nI a ≤ (4 : Int32) ↔ a ≤ 4 := nI_leI (b := 4) h (by decide)
theorem el_c4 {a : Nat} (h : a < 2 ^ 31) : (4 : Int32) < nI a ↔ 4 < a := nI_ltI (a := 4) (by decide) h
theorem el_d4 {a : Nat} (h : a < 2 ^ 31) : nI a < (4 : Int32) ↔ a < 4 := nI_ltI (b := 4) h (by decide)
theorem el_e4 {a : Nat} (h : a < 2 ^ 31) : nI a = (4 : Int32) ↔ a = 4 := nI_eq (b := 4) h (by decide)
theorem el_f4 {a : Nat} (h : a < 2 ^ 31) : (4 : Int32) = nI a ↔ 4 = a := nI_eq (a := 4) (by decide) h
theorem eb_a4 {a : Nat} (h : 4 ≤ a) (g : a < 2 ^ 31) : ((4 : Int32) ≤ nI a) = True := eq_true ((el_a4 g).mpr h)
theorem eb_b4 {a : Nat} (h : a < 4) : ((4 : Int32) ≤ nI a) = False := eq_false (fun z => by have := (el_a4 (by omega)).mp z; omega)
theorem eb_c4 {a : Nat} (h : a ≤ 4) : (nI a ≤ (4 : Int32)) = True := eq_true ((el_b4 (by omega)).mpr h)
theorem eb_d4 {a : Nat} (h : 4 < a) (g : a < 2 ^ 31) : (nI a ≤ (4 : Int32)) = False := eq_false (fun z => by have := (el_b4 g).mp z; omega)
theorem eb_e4 {a : Nat} (h : 4 < a) (g : a < 2 ^ 31) : ((4 : Int32) < nI a) = True := eq_true ((el_c4 g).mpr h)
theorem eb_f4 {a : Nat} (h : a ≤ 4) : ((4 : Int32) < nI a) = False := eq_false (fun z => by have := (el_c4 (by omega)).mp z; omega)
theorem eb_g4 {a : Nat} (h : a < 4) : (nI a < (4 : Int32)) = True := eq_true ((el_d4 (by omega)).mpr h)
theorem eb_h4 {a : Nat} (h : 4 ≤ a) (g : a < 2 ^ 31) : (nI a < (4 : Int32)) = False := eq_false (fun z => by have := (el_d4 g).mp z; omega)
theorem eb_i4 {a : Nat} (h : a = 4) : (nI a = (4 : Int32)) = True := eq_true ((el_e4 (by omega)).mpr h)
theorem eb_j4 {a : Nat} (h : a ≠ 4) (g : a < 2 ^ 31) : (nI a = (4 : Int32)) = False := eq_false (fun z => h ((el_e4 g).mp z))
theorem el_g4 (a : Nat) : nI a + (4 : Int32) = nI (a + 4) := nI_add a 4
theorem el_h4 (a : Nat) : (4 : Int32) + nI a = nI (4 + a) := nI_add 4 a
theorem el_i4 (a : Nat) : nI a * (4 : Int32) = nI (a * 4) := pk_mul a 4
theorem el_j4 (a : Nat) : (4 : Int32) * nI a = nI (4 * a) := pk_mul 4 a
theorem el_a5 {a : Nat} (h : a < 2 ^ 31) : (5 : Int32) ≤ nI a ↔ 5 ≤ a := nI_leI (a := 5) (by decide) h
theorem el_b5 {a : Nat} (h : a < 2 ^ 31) : nI a ≤ (5 : Int32) ↔ a ≤ 5 := nI_leI (b := 5) h (by decide)
theorem el_c5 {a : Nat} (h : a < 2 ^ 31) : (5 : Int32) < nI a ↔ 5 < a := nI_ltI (a := 5) (by decide) h
theorem el_d5 {a : Nat} (h : a < 2 ^ 31) : nI a < (5 : Int32) ↔ a < 5 := nI_ltI (b := 5) h (by decide)
theorem el_e5 {a : Nat} (h : a < 2 ^ 31) : nI a = (5 : Int32) ↔ a = 5 := nI_eq (b := 5) h (by decide)
theorem el_f5 {a : Nat} (h : a < 2 ^ 31) : (5 : Int32) = nI a ↔ 5 = a := nI_eq (a := 5) (by decide) h
theorem eb_a5 {a : Nat} (h : 5 ≤ a) (g : a < 2 ^ 31) : ((5 : Int32) ≤ nI a) = True := eq_true ((el_a5 g).mpr h)
theorem eb_b5 {a : Nat} (h : a < 5) : ((5 : Int32) ≤ nI a) = False := eq_false (fun z => by have := (el_a5 (by omega)).mp z; omega)
theorem eb_c5 {a : Nat} (h : a ≤ 5) : (nI a ≤ (5 : Int32)) = True := eq_true ((el_b5 (by omega)).mpr h)
theorem eb_d5 {a : Nat} (h : 5 < a) (g : a < 2 ^ 31) : (nI a ≤ (5 : Int32)) = False := eq_false (fun z => by have := (el_b5 g).mp z; omega)
theorem eb_e5 {a : Nat} (h : 5 < a) (g : a < 2 ^ 31) : ((5 : Int32) < nI a) = True := eq_true ((el_c5 g).mpr h)
theorem eb_f5 {a : Nat} (h : a ≤ 5) : ((5 : Int32) < nI a) = False := eq_false (fun z => by have := (el_c5 (by omega)).mp z; omega)
theorem eb_g5 {a : Nat} (h : a < 5) : (nI a < (5 : Int32)) = True := eq_true ((el_d5 (by omega)).mpr h)
theorem eb_h5 {a : Nat} (h : 5 ≤ a) (g : a < 2 ^ 31) : (nI a < (5 : Int32)) = False := eq_false (fun z => by have := (el_d5 g).mp z; omega)
theorem eb_i5 {a : Nat} (h : a = 5) : (nI a = (5 : Int32)) = True := eq_true ((el_e5 (by omega)).mpr h)
theorem eb_j5 {a : Nat} (h : a ≠ 5) (g : a < 2 ^ 31) : (nI a = (5 : Int32)) = False := eq_false (fun z => h ((el_e5 g).mp z))
theorem el_g5 (a : Nat) : nI a + (5 : Int32) = nI (a + 5) := nI_add a 5
theorem el_h5 (a : Nat) : (5 : Int32) + nI a = nI (5 + a) := nI_add 5 a
theorem el_i5 (a : Nat) : nI a * (5 : Int32) = nI (a * 5) := pk_mul a 5
theorem el_j5 (a : Nat) : (5 : Int32) * nI a = nI (5 * a) := pk_mul 5 a
theorem el_a6 {a : Nat} (h : a < 2 ^ 31) : (6 : Int32) ≤ nI a ↔ 6 ≤ a := nI_leI (a := 6) (by decide) h
theorem el_b6 {a : Nat} (h : a < 2 ^ 31) : nI a ≤ (6 : Int32) ↔ a ≤ 6 := nI_leI (b := 6) h (by decide)
theorem el_c6 {a : Nat} (h : a < 2 ^ 31) : (6 : Int32) < nI a ↔ 6 < a := nI_ltI (a := 6) (by decide) h
theorem el_d6 {a : Nat} (h : a < 2 ^ 31) : nI a < (6 : Int32) ↔ a < 6 := nI_ltI (b := 6) h (by decide)
theorem el_e6 {a : Nat} (h : a < 2 ^ 31) : nI a = (6 : Int32) ↔ a = 6 := nI_eq (b := 6) h (by decide)
theorem el_f6 {a : Nat} (h : a < 2 ^ 31) : (6 : Int32) = nI a ↔ 6 = a := nI_eq (a := 6) (by decide) h
theorem eb_a6 {a : Nat} (h : 6 ≤ a) (g : a < 2 ^ 31) : ((6 : Int32) ≤ nI a) = True := eq_true ((el_a6 g).mpr h)
theorem eb_b6 {a : Nat} (h : a < 6) : ((6 : Int32) ≤ nI a) = False := eq_false (fun z => by have := (el_a6 (by omega)).mp z; omega)
theorem eb_c6 {a : Nat} (h : a ≤ 6) : (nI a ≤ (6 : Int32)) = True := eq_true ((el_b6 (by omega)).mpr h)
theorem eb_d6 {a : Nat} (h : 6 < a) (g : a < 2 ^ 31) : (nI a ≤ (6 : Int32)) = False := eq_false (fun z => by have := (el_b6 g).mp z; omega)
theorem eb_e6 {a : Nat} (h : 6 < a) (g : a < 2 ^ 31) : ((6 : Int32) < nI a) = True := eq_true ((el_c6 g).mpr h)
theorem eb_f6 {a : Nat} (h : a ≤ 6) : ((6 : Int32) < nI a) = False := eq_false (fun z => by have := (el_c6 (by omega)).mp z; omega)
theorem eb_g6 {a : Nat} (h : a < 6) : (nI a < (6 : Int32)) = True := eq_true ((el_d6 (by omega)).mpr h)
theorem eb_h6 {a : Nat} (h : 6 ≤ a) (g : a < 2 ^ 31) : (nI a < (6 : Int32)) = False := eq_false (fun z => by have := (el_d6 g).mp z; omega)
theorem eb_i6 {a : Nat} (h : a = 6) : (nI a = (6 : Int32)) = True := eq_true ((el_e6 (by omega)).mpr h)
theorem eb_j6 {a : Nat} (h : a ≠ 6) (g : a < 2 ^ 31) : (nI a = (6 : Int32)) = False := eq_false (fun z => h ((el_e6 g).mp z))
theorem el_g6 (a : Nat) : nI a + (6 : Int32) = nI (a + 6) := nI_add a 6
theorem el_h6 (a : Nat) : (6 : Int32) + nI a = nI (6 + a) := nI_add 6 a
theorem el_i6 (a : Nat) : nI a * (6 : Int32) = nI (a * 6) := pk_mul a 6
theorem el_j6 (a : Nat) : (6 : Int32) * nI a = nI (6 * a) := pk_mul 6 a
theorem el_a7 {a : Nat} (h : a < 2 ^ 31) : (7 : Int32) ≤ nI a ↔ 7 ≤ a := nI_leI (a := 7) (by decide) h
theorem el_b7 {a : Nat} (h : a < 2 ^ 31) : nI a ≤ (7 : Int32) ↔ a ≤ 7 := nI_leI (b := 7) h (by decide)
theorem el_c7 {a : Nat} (h : a < 2 ^ 31) : (7 : Int32) < nI a ↔ 7 < a := nI_ltI (a := 7) (by decide) h
theorem el_d7 {a : Nat} (h : a < 2 ^ 31) : nI a < (7 : Int32) ↔ a < 7 := nI_ltI (b := 7) h (by decide)
theorem el_e7 {a : Nat} (h : a < 2 ^ 31) : nI a = (7 : Int32) ↔ a = 7 := nI_eq (b := 7) h (by decide)
theorem el_f7 {a : Nat} (h : a < 2 ^ 31) : (7 : Int32) = nI a ↔ 7 = a := nI_eq (a := 7) (by decide) h
theorem eb_a7 {a : Nat} (h : 7 ≤ a) (g : a < 2 ^ 31) : ((7 : Int32) ≤ nI a) = True := eq_true ((el_a7 g).mpr h)
theorem eb_b7 {a : Nat} (h : a < 7) : ((7 : Int32) ≤ nI a) = False := eq_false (fun z => by have := (el_a7 (by omega)).mp z; omega)
theorem eb_c7 {a : Nat} (h : a ≤ 7) : (nI a ≤ (7 : Int32)) = True := eq_true ((el_b7 (by omega)).mpr h)
theorem eb_d7 {a : Nat} (h : 7 < a) (g : a < 2 ^ 31) : (nI a ≤ (7 : Int32)) = False := eq_false (fun z => by have := (el_b7 g).mp z; omega)
theorem eb_e7 {a : Nat} (h : 7 < a) (g : a < 2 ^ 31) : ((7 : Int32) < nI a) = True := eq_true ((el_c7 g).mpr h)
theorem eb_f7 {a : Nat} (h : a ≤ 7) : ((7 : Int32) < nI a) = False := eq_false (fun z => by have := (el_c7 (by omega)).mp z; omega)
theorem eb_g7 {a : Nat} (h : a < 7) : (nI a < (7 : Int32)) = True := eq_true ((el_d7 (by omega)).mpr h)
theorem eb_h7 {a : Nat} (h : 7 ≤ a) (g : a < 2 ^ 31) : (nI a < (7 : Int32)) = False := eq_false (fun z => by have := (el_d7 g).mp z; omega)
theorem eb_i7 {a : Nat} (h : a = 7) : (nI a = (7 : Int32)) = True := eq_true ((el_e7 (by omega)).mpr h)
theorem eb_j7 {a : Nat} (h : a ≠ 7) (g : a < 2 ^ 31) : (nI a = (7 : Int32)) = False := eq_false (fun z => h ((el_e7 g).mp z))
theorem el_g7 (a : Nat) : nI a + (7 : Int32) = nI (a + 7) := nI_add a 7
theorem el_h7 (a : Nat) : (7 : Int32) + nI a = nI (7 + a) := nI_add 7 a
theorem el_i7 (a : Nat) : nI a * (7 : Int32) = nI (a * 7) := pk_mul a 7
theorem el_j7 (a : Nat) : (7 : Int32) * nI a = nI (7 * a) := pk_mul 7 a
theorem el_a8 {a : Nat} (h : a < 2 ^ 31) : (8 : Int32) ≤ nI a ↔ 8 ≤ a := nI_leI (a := 8) (by decide) h
theorem el_b8 {a : Nat} (h : a < 2 ^ 31) : nI a ≤ (8 : Int32) ↔ a ≤ 8 := nI_leI (b := 8) h (by decide)
theorem el_c8 {a : Nat} (h : a < 2 ^ 31) : (8 : Int32) < nI a ↔ 8 < a := nI_ltI (a := 8) (by decide) h
theorem el_d8 {a : Nat} (h : a < 2 ^ 31) : nI a < (8 : Int32) ↔ a < 8 := nI_ltI (b := 8) h (by decide)
theorem el_e8 {a : Nat} (h : a < 2 ^ 31) : nI a = (8 : Int32) ↔ a = 8 := nI_eq (b := 8) h (by decide)
theorem el_f8 {a : Nat} (h : a < 2 ^ 31) : (8 : Int32) = nI a ↔ 8 = a := nI_eq (a := 8) (by decide) h
theorem eb_a8 {a : Nat} (h : 8 ≤ a) (g : a < 2 ^ 31) : ((8 : Int32) ≤ nI a) = True := eq_true ((el_a8 g).mpr h)
theorem eb_b8 {a : Nat} (h : a < 8) : ((8 : Int32) ≤ nI a) = False := eq_false (fun z => by have := (el_a8 (by omega)).mp z; omega)
theorem eb_c8 {a : Nat} (h : a ≤ 8) : (nI a ≤ (8 : Int32)) = True := eq_true ((el_b8 (by omega)).mpr h)
theorem eb_d8 {a : Nat} (h : 8 < a) (g : a < 2 ^ 31) : (nI a ≤ (8 : Int32)) = False := eq_false (fun z => by have := (el_b8 g).mp z; omega)
theorem eb_e8 {a : Nat} (h : 8 < a) (g : a < 2 ^ 31) : ((8 : Int32) < nI a) = True := eq_true ((el_c8 g).mpr h)
theorem eb_f8 {a : Nat} (h : a ≤ 8) : ((8 : Int32) < nI a) = False := eq_false (fun z => by have := (el_c8 (by omega)).mp z; omega)
theorem eb_g8 {a : Nat} (h : a < 8) : (nI a < (8 : Int32)) = True := eq_true ((el_d8 (by omega)).mpr h)
theorem eb_h8 {a : Nat} (h : 8 ≤ a) (g : a < 2 ^ 31) : (nI a < (8 : Int32)) = False := eq_false (fun z => by have := (el_d8 g).mp z; omega)
theorem eb_i8 {a : Nat} (h : a = 8) : (nI a = (8 : Int32)) = True := eq_true ((el_e8 (by omega)).mpr h)
theorem eb_j8 {a : Nat} (h : a ≠ 8) (g : a < 2 ^ 31) : (nI a = (8 : Int32)) = False := eq_false (fun z => h ((el_e8 g).mp z))
theorem el_g8 (a : Nat) : nI a + (8 : Int32) = nI (a + 8) := nI_add a 8
theorem el_h8 (a : Nat) : (8 : Int32) + nI a = nI (8 + a) := nI_add 8 a
theorem el_i8 (a : Nat) : nI a * (8 : Int32) = nI (a * 8) := pk_mul a 8
theorem el_j8 (a : Nat) : (8 : Int32) * nI a = nI (8 * a) := pk_mul 8 a
theorem el_a9 {a : Nat} (h : a < 2 ^ 31) : (9 : Int32) ≤ nI a ↔ 9 ≤ a := nI_leI (a := 9) (by decide) h
theorem el_b9 {a : Nat} (h : a < 2 ^ 31) : nI a ≤ (9 : Int32) ↔ a ≤ 9 := nI_leI (b := 9) h (by decide)
theorem el_c9 {a : Nat} (h : a < 2 ^ 31) : (9 : Int32) < nI a ↔ 9 < a := nI_ltI (a := 9) (by decide) h
theorem el_d9 {a : Nat} (h : a < 2 ^ 31) : nI a < (9 : Int32) ↔ a < 9 := nI_ltI (b := 9) h (by decide)
theorem el_e9 {a : Nat} (h : a < 2 ^ 31) : nI a = (9 : Int32) ↔ a = 9 := nI_eq (b := 9) h (by decide)
theorem el_f9 {a : Nat} (h : a < 2 ^ 31) : (9 : Int32) = nI a ↔ 9 = a := nI_eq (a := 9) (by decide) h
theorem eb_a9 {a : Nat} (h : 9 ≤ a) (g : a < 2 ^ 31) : ((9 : Int32) ≤ nI a) = True := eq_true ((el_a9 g).mpr h)
theorem eb_b9 {a : Nat} (h : a < 9) : ((9 : Int32) ≤ nI a) = False := eq_false (fun z => by have := (el_a9 (by omega)).mp z; omega)
theorem eb_c9 {a : Nat} (h : a ≤ 9) : (nI a ≤ (9 : Int32)) = True := eq_true ((el_b9 (by omega)).mpr h)
theorem eb_d9 {a : Nat} (h : 9 < a) (g : a < 2 ^ 31) : (nI a ≤ (9 : Int32)) = False := eq_false (fun z => by have := (el_b9 g).mp z; omega)
theorem eb_e9 {a : Nat} (h : 9 < a) (g : a < 2 ^ 31) : ((9 : Int32) < nI a) = True := eq_true ((el_c9 g).mpr h)
theorem eb_f9 {a : Nat} (h : a ≤ 9) : ((9 : Int32) < nI a) = False := eq_false (fun z => by have := (el_c9 (by omega)).mp z; omega)
theorem eb_g9 {a : Nat} (h : a < 9) : (nI a < (9 : Int32)) = True := eq_true ((el_d9 (by omega)).mpr h)
theorem eb_h9 {a : Nat} (h : 9 ≤ a) (g : a < 2 ^ 31) : (nI a < (9 : Int32)) = False := eq_false (fun z => by have := (el_d9 g).mp z; omega)
theorem eb_i9 {a : Nat} (h : a = 9) : (nI a = (9 : Int32)) = True := eq_true ((el_e9 (by omega)).mpr h)
theorem eb_j9 {a : Nat} (h : a ≠ 9) (g : a < 2 ^ 31) : (nI a = (9 : Int32)) = False := eq_false (fun z => h ((el_e9 g).mp z))
theorem el_g9 (a : Nat) : nI a + (9 : Int32) = nI (a + 9) := nI_add a 9
theorem el_h9 (a : Nat) : (9 : Int32) + nI a = nI (9 + a) := nI_add 9 a
theorem el_i9 (a : Nat) : nI a * (9 : Int32) = nI (a * 9) := pk_mul a 9
theorem el_j9 (a : Nat) : (9 : Int32) * nI a = nI (9 * a) := pk_mul 9 a
theorem el_a10 {a : Nat} (h : a < 2 ^ 31) : (10 : Int32) ≤ nI a ↔ 10 ≤ a := nI_leI (a := 10) (by decide) h
theorem el_b10 {a : Nat} (h : a < 2 ^ 31) : nI a ≤ (10 : Int32) ↔ a ≤ 10 := nI_leI (b := 10) h (by decide)
theorem el_c10 {a : Nat} (h : a < 2 ^ 31) : (10 : Int32) < nI a ↔ 10 < a := nI_ltI (a := 10) (by decide) h
theorem el_d10 {a : Nat} (h : a < 2 ^ 31) : nI a < (10 : Int32) ↔ a < 10 := nI_ltI (b := 10) h (by decide)
theorem el_e10 {a : Nat} (h : a < 2 ^ 31) : nI a = (10 : Int32) ↔ a = 10 := nI_eq (b := 10) h (by decide)
theorem el_f10 {a : Nat} (h : a < 2 ^ 31) : (10 : Int32) = nI a ↔ 10 = a := nI_eq (a := 10) (by decide) h
theorem eb_a10 {a : Nat} (h : 10 ≤ a) (g : a < 2 ^ 31) : ((10 : Int32) ≤ nI a) = True := eq_true ((el_a10 g).mpr h)
theorem eb_b10 {a : Nat} (h : a < 10) : ((10 : Int32) ≤ nI a) = False := eq_false (fun z => by have := (el_a10 (by omega)).mp z; omega)
theorem eb_c10 {a : Nat} (h : a ≤ 10) : (nI a ≤ (10 : Int32)) = True := eq_true ((el_b10 (by omega)).mpr h)
theorem eb_d10 {a : Nat} (h : 10 < a) (g : a < 2 ^ 31) : (nI a ≤ (10 : Int32)) = False := eq_false (fun z => by have := (el_b10 g).mp z; omega)
theorem eb_e10 {a : Nat} (h : 10 < a) (g : a < 2 ^ 31) : ((10 : Int32) < nI a) = True := eq_true ((el_c10 g).mpr h)
theorem eb_f10 {a : Nat} (h : a ≤ 10) : ((10 : Int32) < nI a) = False := eq_false (fun z => by have := (el_c10 (by omega)).mp z; omega)
theorem eb_g10 {a : Nat} (h : a < 10) : (nI a < (10 : Int32)) = True := eq_true ((el_d10 (by omega)).mpr h)
theorem eb_h10 {a : Nat} (h : 10 ≤ a) (g : a < 2 ^ 31) : (nI a < (10 : Int32)) = False := eq_false (fun z => by have := (el_d10 g).mp z; omega)
theorem eb_i10 {a : Nat} (h : a = 10) : (nI a = (10 : Int32)) = True := eq_true ((el_e10 (by omega)).mpr h)
theorem eb_j10 {a : Nat} (h : a ≠ 10) (g : a < 2 ^ 31) : (nI a = (10 : Int32)) = False := eq_false (fun z => h ((el_e10 g).mp z))
theorem el_g10 (a : Nat) : nI a + (10 : Int32) = nI (a + 10) := nI_add a 10
theorem el_h10 (a : Nat) : (10 : Int32) + nI a = nI (10 + a) := nI_add 10 a
theorem el_i10 (a : Nat) : nI a * (10 : Int32) = nI (a * 10) := pk_mul a 10
theorem el_j10 (a : Nat) : (10 : Int32) * nI a = nI (10 * a) := pk_mul 10 a
theorem el_a11 {a : Nat} (h : a < 2 ^ 31) : (11 : Int32) ≤ nI a ↔ 11 ≤ a := nI_leI (a := 11) (by decide) h
theorem el_b11 {a : Nat} (h : a < 2 ^ 31) : nI a ≤ (11 : Int32) ↔ a ≤ 11 := nI_leI (b := 11) h (by decide)
theorem el_c11 {a : Nat} (h : a < 2 ^ 31) : (11 : Int32) < nI a ↔ 11 < a := nI_ltI (a := 11) (by decide) h
theorem el_d11 {a : Nat} (h : a < 2 ^ 31) : nI a < (11 : Int32) ↔ a < 11 := nI_ltI (b := 11) h (by decide)
theorem el_e11 {a : Nat} (h : a < 2 ^ 31) : nI a = (11 : Int32) ↔ a = 11 := nI_eq (b := 11) h (by decide)
theorem el_f11 {a : Nat} (h : a < 2 ^ 31) : (11 : Int32) = nI a ↔ 11 = a := nI_eq (a := 11) (by decide) h
theorem eb_a11 {a : Nat} (h : 11 ≤ a) (g : a < 2 ^ 31) : ((11 : Int32) ≤ nI a) = True := eq_true ((el_a11 g).mpr h)
theorem eb_b11 {a : Nat} (h : a < 11) : ((11 : Int32) ≤ nI a) = False := eq_false (fun z => by have := (el_a11 (by omega)).mp z; omega)
theorem eb_c11 {a : Nat} (h : a ≤ 11) : (nI a ≤ (11 : Int32)) = True := eq_true ((el_b11 (by omega)).mpr h)
theorem eb_d11 {a : Nat} (h : 11 < a) (g : a < 2 ^ 31) : (nI a ≤ (11 : Int32)) = False := eq_false (fun z => by have := (el_b11 g).mp z; omega)
theorem eb_e11 {a : Nat} (h : 11 < a) (g : a < 2 ^ 31) : ((11 : Int32) < nI a) = True := eq_true ((el_c11 g).mpr h)
theorem eb_f11 {a : Nat} (h : a ≤ 11) : ((11 : Int32) < nI a) = False := eq_false (fun z => by have := (el_c11 (by omega)).mp z; omega)
theorem eb_g11 {a : Nat} (h : a < 11) : (nI a < (11 : Int32)) = True := eq_true ((el_d11 (by omega)).mpr h)
theorem eb_h11 {a : Nat} (h : 11 ≤ a) (g : a < 2 ^ 31) : (nI a < (11 : Int32)) = False := eq_false (fun z => by have := (el_d11 g).mp z; omega)
theorem eb_i11 {a : Nat} (h : a = 11) : (nI a = (11 : Int32)) = True := eq_true ((el_e11 (by omega)).mpr h)
theorem eb_j11 {a : Nat} (h : a ≠ 11) (g : a < 2 ^ 31) : (nI a = (11 : Int32)) = False := eq_false (fun z => h ((el_e11 g).mp z))
theorem el_g11 (a : Nat) : nI a + (11 : Int32) = nI (a + 11) := nI_add a 11
theorem el_h11 (a : Nat) : (11 : Int32) + nI a = nI (11 + a) := nI_add 11 a
theorem el_i11 (a : Nat) : nI a * (11 : Int32) = nI (a * 11) := pk_mul a 11
theorem el_j11 (a : Nat) : (11 : Int32) * nI a = nI (11 * a) := pk_mul 11 a
theorem el_a12 {a : Nat} (h : a < 2 ^ 31) : (12 : Int32) ≤ nI a ↔ 12 ≤ a := nI_leI (a := 12) (by decide) h
theorem el_b12 {a : Nat} (h : a < 2 ^ 31) : nI a ≤ (12 : Int32) ↔ a ≤ 12 := nI_leI (b := 12) h (by decide)
theorem el_c12 {a : Nat} (h : a < 2 ^ 31) : (12 : Int32) < nI a ↔ 12 < a := nI_ltI (a := 12) (by decide) h
theorem el_d12 {a : Nat} (h : a < 2 ^ 31) : nI a < (12 : Int32) ↔ a < 12 := nI_ltI (b := 12) h (by decide)
theorem el_e12 {a : Nat} (h : a < 2 ^ 31) : nI a = (12 : Int32) ↔ a = 12 := nI_eq (b := 12) h (by decide)
theorem el_f12 {a : Nat} (h : a < 2 ^ 31) : (12 : Int32) = nI a ↔ 12 = a := nI_eq (a := 12) (by decide) h
theorem eb_a12 {a : Nat} (h : 12 ≤ a) (g : a < 2 ^ 31) : ((12 : Int32) ≤ nI a) = True := eq_true ((el_a12 g).mpr h)
theorem eb_b12 {a : Nat} (h : a < 12) : ((12 : Int32) ≤ nI a) = False := eq_false (fun z => by have := (el_a12 (by omega)).mp z; omega)
theorem eb_c12 {a : Nat} (h : a ≤ 12) : (nI a ≤ (12 : Int32)) = True := eq_true ((el_b12 (by omega)).mpr h)
theorem eb_d12 {a : Nat} (h : 12 < a) (g : a < 2 ^ 31) : (nI a ≤ (12 : Int32)) = False := eq_false (fun z => by have := (el_b12 g).mp z; omega)
theorem eb_e12 {a : Nat} (h : 12 < a) (g : a < 2 ^ 31) : ((12 : Int32) < nI a) = True := eq_true ((el_c12 g).mpr h)
theorem eb_f12 {a : Nat} (h : a ≤ 12) : ((12 : Int32) < nI a) = False := eq_false (fun z => by have := (el_c12 (by omega)).mp z; omega)
theorem eb_g12 {a : Nat} (h : a < 12) : (nI a < (12 : Int32)) = True := eq_true ((el_d12 (by omega)).mpr h)
theorem eb_h12 {a : Nat} (h : 12 ≤ a) (g : a < 2 ^ 31) : (nI a < (12 : Int32)) = False := eq_false (fun z => by have := (el_d12 g).mp z; omega)
theorem eb_i12 {a : Nat} (h : a = 12) : (nI a = (12 : Int32)) = True := eq_true ((el_e12 (by omega)).mpr h)
theorem eb_j12 {a : Nat} (h : a ≠ 12) (g : a < 2 ^ 31) : (nI a = (12 : Int32)) = False := eq_false (fun z => h ((el_e12 g).mp z))
theorem el_g12 (a : Nat) : nI a + (12 : Int32) = nI (a + 12) := nI_add a 12
theorem el_h12 (a : Nat) : (12 : Int32) + nI a = nI (12 + a) := nI_add 12 a
theorem el_i12 (a : Nat) : nI a * (12 : Int32) = nI (a * 12) := pk_mul a 12
theorem el_j12 (a : Nat) : (12 : Int32) * nI a = nI (12 * a) := pk_mul 12 a
theorem el_a13 {a : Nat} (h : a < 2 ^ 31) : (13 : Int32) ≤ nI a ↔ 13 ≤ a := nI_leI (a := 13) (by decide) h
theorem el_b13 {a : Nat} (h : a < 2 ^ 31) : nI a ≤ (13 : Int32) ↔ a ≤ 13 := nI_leI (b := 13) h (by decide)
theorem el_c13 {a : Nat} (h : a < 2 ^ 31) : (13 : Int32) < nI a ↔ 13 < a := nI_ltI (a := 13) (by decide) h
theorem el_d13 {a : Nat} (h : a < 2 ^ 31) : nI a < (13 : Int32) ↔ a < 13 := nI_ltI (b := 13) h (by decide)
theorem el_e13 {a : Nat} (h : a < 2 ^ 31) : nI a = (13 : Int32) ↔ a = 13 := nI_eq (b := 13) h (by decide)
theorem el_f13 {a : Nat} (h : a < 2 ^ 31) : (13 : Int32) = nI a ↔ 13 = a := nI_eq (a := 13) (by decide) h
theorem eb_a13 {a : Nat} (h : 13 ≤ a) (g : a < 2 ^ 31) : ((13 : Int32) ≤ nI a) = True := eq_true ((el_a13 g).mpr h)
theorem eb_b13 {a : Nat} (h : a < 13) : ((13 : Int32) ≤ nI a) = False := eq_false (fun z => by have := (el_a13 (by omega)).mp z; omega)
theorem eb_c13 {a : Nat} (h : a ≤ 13) : (nI a ≤ (13 : Int32)) = True := eq_true ((el_b13 (by omega)).mpr h)
theorem eb_d13 {a : Nat} (h : 13 < a) (g : a < 2 ^ 31) : (nI a ≤ (13 : Int32)) = False := eq_false (fun z => by have := (el_b13 g).mp z; omega)
theorem eb_e13 {a : Nat} (h : 13 < a) (g : a < 2 ^ 31) : ((13 : Int32) < nI a) = True := eq_true ((el_c13 g).mpr h)
theorem eb_f13 {a : Nat} (h : a ≤ 13) : ((13 : Int32) < nI a) = False := eq_false (fun z => by have := (el_c13 (by omega)).mp z; omega)
theorem eb_g13 {a : Nat} (h : a < 13) : (nI a < (13 : Int32)) = True := eq_true ((el_d13 (by omega)).mpr h)
theorem eb_h13 {a : Nat} (h : 13 ≤ a) (g : a < 2 ^ 31) : (nI a < (13 : Int32)) = False := eq_false (fun z => by have := (el_d13 g).mp z; omega)
theorem eb_i13 {a : Nat} (h : a = 13) : (nI a = (13 : Int32)) = True := eq_true ((el_e13 (by omega)).mpr h)
theorem eb_j13 {a : Nat} (h : a ≠ 13) (g : a < 2 ^ 31) : (nI a = (13 : Int32)) = False := eq_false (fun z => h ((el_e13 g).mp z))
theorem el_g13 (a : Nat) : nI a + (13 : Int32) = nI (a + 13) := nI_add a 13
theorem el_h13 (a : Nat) : (13 : Int32) + nI a = nI (13 + a) := nI_add 13 a
theorem el_i13 (a : Nat) : nI a * (13 : Int32) = nI (a * 13) := pk_mul a 13
theorem el_j13 (a : Nat) : (13 : Int32) * nI a = nI (13 * a) := pk_mul 13 a
theorem el_a14 {a : Nat} (h : a < 2 ^ 31) : (14 : Int32) ≤ nI a ↔ 14 ≤ a := nI_leI (a := 14) (by decide) h
theorem el_b14 {a : Nat} (h : a < 2 ^ 31) : nI a ≤ (14 : Int32) ↔ a ≤ 14 := nI_leI (b := 14) h (by decide)
theorem el_c14 {a : Nat} (h : a < 2 ^ 31) : (14 : Int32) < nI a ↔ 14 < a := nI_ltI (a := 14) (by decide) h
theorem el_d14 {a : Nat} (h : a < 2 ^ 31) : nI a < (14 : Int32) ↔ a < 14 := nI_ltI (b := 14) h (by decide)
theorem el_e14 {a : Nat} (h : a < 2 ^ 31) : nI a = (14 : Int32) ↔ a = 14 := nI_eq (b := 14) h (by decide)
theorem el_f14 {a : Nat} (h : a < 2 ^ 31) : (14 : Int32) = nI a ↔ 14 = a := nI_eq (a := 14) (by decide) h
theorem eb_a14 {a : Nat} (h : 14 ≤ a) (g : a < 2 ^ 31) : ((14 : Int32) ≤ nI a) = True := eq_true ((el_a14 g).mpr h)
theorem eb_b14 {a : Nat} (h : a < 14) : ((14 : Int32) ≤ nI a) = False := eq_false (fun z => by have := (el_a14 (by omega)).mp z; omega)
theorem eb_c14 {a : Nat} (h : a ≤ 14) : (nI a ≤ (14 : Int32)) = True := eq_true ((el_b14 (by omega)).mpr h)
theorem eb_d14 {a : Nat} (h : 14 < a) (g : a < 2 ^ 31) : (nI a ≤ (14 : Int32)) = False := eq_false (fun z => by have := (el_b14 g).mp z; omega)
theorem eb_e14 {a : Nat} (h : 14 < a) (g : a < 2 ^ 31) : ((14 : Int32) < nI a) = True := eq_true ((el_c14 g).mpr h)
theorem eb_f14 {a : Nat} (h : a ≤ 14) : ((14 : Int32) < nI a) = False := eq_false (fun z => by have := (el_c14 (by omega)).mp z; omega)
theorem eb_g14 {a : Nat} (h : a < 14) : (nI a < (14 : Int32)) = True := eq_true ((el_d14 (by omega)).mpr h)
theorem eb_h14 {a : Nat} (h : 14 ≤ a) (g : a < 2 ^ 31) : (nI a < (14 : Int32)) = False := eq_false (fun z => by have := (el_d14 g).mp z; omega)
theorem eb_i14 {a : Nat} (h : a = 14) : (nI a = (14 : Int32)) = True := eq_true ((el_e14 (by omega)).mpr h)
theorem eb_j14 {a : Nat} (h : a ≠ 14) (g : a < 2 ^ 31) : (nI a = (14 : Int32)) = False := eq_false (fun z => h ((el_e14 g).mp z))
theorem el_g14 (a : Nat) : nI a + (14 : Int32) = nI (a + 14) := nI_add a 14
theorem el_h14 (a : Nat) : (14 : Int32) + nI a = nI (14 + a) := nI_add 14 a
theorem el_i14 (a : Nat) : nI a * (14 : Int32) = nI (a * 14) := pk_mul a 14
theorem el_j14 (a : Nat) : (14 : Int32) * nI a = nI (14 * a) := pk_mul 14 a
theorem el_a15 {a : Nat} (h : a < 2 ^ 31) : (15 : Int32) ≤ nI a ↔ 15 ≤ a := nI_leI (a := 15) (by decide) h
theorem el_b15 {a : Nat} (h : a < 2 ^ 31) : nI a ≤ (15 : Int32) ↔ a ≤ 15 := nI_leI (b := 15) h (by decide)
theorem el_c15 {a : Nat} (h : a < 2 ^ 31) : (15 : Int32) < nI a ↔ 15 < a := nI_ltI (a := 15) (by decide) h
theorem el_d15 {a : Nat} (h : a < 2 ^ 31) : nI a < (15 : Int32) ↔ a < 15 := nI_ltI (b := 15) h (by decide)
theorem el_e15 {a : Nat} (h : a < 2 ^ 31) : nI a = (15 : Int32) ↔ a = 15 := nI_eq (b := 15) h (by decide)
theorem el_f15 {a : Nat} (h : a < 2 ^ 31) : (15 : Int32) = nI a ↔ 15 = a := nI_eq (a := 15) (by decide) h
theorem eb_a15 {a : Nat} (h : 15 ≤ a) (g : a < 2 ^ 31) : ((15 : Int32) ≤ nI a) = True := eq_true ((el_a15 g).mpr h)
theorem eb_b15 {a : Nat} (h : a < 15) : ((15 : Int32) ≤ nI a) = False := eq_false (fun z => by have := (el_a15 (by omega)).mp z; omega)
theorem eb_c15 {a : Nat} (h : a ≤ 15) : (nI a ≤ (15 : Int32)) = True := eq_true ((el_b15 (by omega)).mpr h)
theorem eb_d15 {a : Nat} (h : 15 < a) (g : a < 2 ^ 31) : (nI a ≤ (15 : Int32)) = False := eq_false (fun z => by have := (el_b15 g).mp z; omega)
theorem eb_e15 {a : Nat} (h : 15 < a) (g : a < 2 ^ 31) : ((15 : Int32) < nI a) = True := eq_true ((el_c15 g).mpr h)
theorem eb_f15 {a : Nat} (h : a ≤ 15) : ((15 : Int32) < nI a) = False := eq_false (fun z => by have := (el_c15 (by omega)).mp z; omega)
theorem eb_g15 {a : Nat} (h : a < 15) : (nI a < (15 : Int32)) = True := eq_true ((el_d15 (by omega)).mpr h)
theorem eb_h15 {a : Nat} (h : 15 ≤ a) (g : a < 2 ^ 31) : (nI a < (15 : Int32)) = False := eq_false (fun z => by have := (el_d15 g).mp z; omega)
theorem eb_i15 {a : Nat} (h : a = 15) : (nI a = (15 : Int32)) = True := eq_true ((el_e15 (by omega)).mpr h)
theorem eb_j15 {a : Nat} (h : a ≠ 15) (g : a < 2 ^ 31) : (nI a = (15 : Int32)) = False := eq_false (fun z => h ((el_e15 g).mp z))
theorem el_g15 (a : Nat) : nI a + (15 : Int32) = nI (a + 15) := nI_add a 15
theorem el_h15 (a : Nat) : (15 : Int32) + nI a = nI (15 + a) := nI_add 15 a
theorem el_i15 (a : Nat) : nI a * (15 : Int32) = nI (a * 15) := pk_mul a 15
theorem el_j15 (a : Nat) : (15 : Int32) * nI a = nI (15 * a) := pk_mul 15 a
theorem el_a16 {a : Nat} (h : a < 2 ^ 31) : (16 : Int32) ≤ nI a ↔ 16 ≤ a := nI_leI (a := 16) (by decide) h
theorem el_b16 {a : Nat} (h : a < 2 ^ 31) : nI a ≤ (16 : Int32) ↔ a ≤ 16 := nI_leI (b := 16) h (by decide)
theorem el_c16 {a : Nat} (h : a < 2 ^ 31) : (16 : Int32) < nI a ↔ 16 < a := nI_ltI (a := 16) (by decide) h
theorem el_d16 {a : Nat} (h : a < 2 ^ 31) : nI a < (16 : Int32) ↔ a < 16 := nI_ltI (b := 16) h (by decide)
theorem el_e16 {a : Nat} (h : a < 2 ^ 31) : nI a = (16 : Int32) ↔ a = 16 := nI_eq (b := 16) h (by decide)
theorem el_f16 {a : Nat} (h : a < 2 ^ 31) : (16 : Int32) = nI a ↔ 16 = a := nI_eq (a := 16) (by decide) h
theorem eb_a16 {a : Nat} (h : 16 ≤ a) (g : a < 2 ^ 31) : ((16 : Int32) ≤ nI a) = True := eq_true ((el_a16 g).mpr h)
theorem eb_b16 {a : Nat} (h : a < 16) : ((16 : Int32) ≤ nI a) = False := eq_false (fun z => by have := (el_a16 (by omega)).mp z; omega)
theorem eb_c16 {a : Nat} (h : a ≤ 16) : (nI a ≤ (16 : Int32)) = True := eq_true ((el_b16 (by omega)).mpr h)
theorem eb_d16 {a : Nat} (h : 16 < a) (g : a < 2 ^ 31) : (nI a ≤ (16 : Int32)) = False := eq_false (fun z => by have := (el_b16 g).mp z; omega)
theorem eb_e16 {a : Nat} (h : 16 < a) (g : a < 2 ^ 31) : ((16 : Int32) < nI a) = True := eq_true ((el_c16 g).mpr h)
theorem eb_f16 {a : Nat} (h : a ≤ 16) : ((16 : Int32) < nI a) = False := eq_false (fun z => by have := (el_c16 (by omega)).mp z; omega)
theorem eb_g16 {a : Nat} (h : a < 16) : (nI a < (16 : Int32)) = True := eq_true ((el_d16 (by omega)).mpr h)
theorem eb_h16 {a : Nat} (h : 16 ≤ a) (g : a < 2 ^ 31) : (nI a < (16 : Int32)) = False := eq_false (fun z => by have := (el_d16 g).mp z; omega)
theorem eb_i16 {a : Nat} (h : a = 16) : (nI a = (16 : Int32)) = True := eq_true ((el_e16 (by omega)).mpr h)
theorem eb_j16 {a : Nat} (h : a ≠ 16) (g : a < 2 ^ 31) : (nI a = (16 : Int32)) = False := eq_false (fun z => h ((el_e16 g).mp z))
theorem el_g16 (a : Nat) : nI a + (16 : Int32) = nI (a + 16) := nI_add a 16
theorem el_h16 (a : Nat) : (16 : Int32) + nI a = nI (16 + a) := nI_add 16 a
theorem el_i16 (a : Nat) : nI a * (16 : Int32) = nI (a * 16) := pk_mul a 16
theorem el_j16 (a : Nat) : (16 : Int32) * nI a = nI (16 * a) := pk_mul 16 a
theorem el_a18 {a : Nat} (h : a < 2 ^ 31) : (18 : Int32) ≤ nI a ↔ 18 ≤ a := nI_leI (a := 18) (by decide) h
theorem el_b18 {a : Nat} (h : a < 2 ^ 31) : nI a ≤ (18 : Int32) ↔ a ≤ 18 := nI_leI (b := 18) h (by decide)
theorem el_c18 {a : Nat} (h : a < 2 ^ 31) : (18 : Int32) < nI a ↔ 18 < a := nI_ltI (a := 18) (by decide) h
theorem el_d18 {a : Nat} (h : a < 2 ^ 31) : nI a < (18 : Int32) ↔ a < 18 := nI_ltI (b := 18) h (by decide)
theorem el_e18 {a : Nat} (h : a < 2 ^ 31) : nI a = (18 : Int32) ↔ a = 18 := nI_eq (b := 18) h (by decide)
theorem el_f18 {a : Nat} (h : a < 2 ^ 31) : (18 : Int32) = nI a ↔ 18 = a := nI_eq (a := 18) (by decide) h
theorem eb_a18 {a : Nat} (h : 18 ≤ a) (g : a < 2 ^ 31) : ((18 : Int32) ≤ nI a) = True := eq_true ((el_a18 g).mpr h)
theorem eb_b18 {a : Nat} (h : a < 18) : ((18 : Int32) ≤ nI a) = False := eq_false (fun z => by have := (el_a18 (by omega)).mp z; omega)
theorem eb_c18 {a : Nat} (h : a ≤ 18) : (nI a ≤ (18 : Int32)) = True := eq_true ((el_b18 (by omega)).mpr h)
theorem eb_d18 {a : Nat} (h : 18 < a) (g : a < 2 ^ 31) : (nI a ≤ (18 : Int32)) = False := eq_false (fun z => by have := (el_b18 g).mp z; omega)
theorem eb_e18 {a : Nat} (h : 18 < a) (g : a < 2 ^ 31) : ((18 : Int32) < nI a) = True := eq_true ((el_c18 g).mpr h)
theorem eb_f18 {a : Nat} (h : a ≤ 18) : ((18 : Int32) < nI a) = False := eq_false (fun z => by have := (el_c18 (by omega)).mp z; omega)
theorem eb_g18 {a : Nat} (h : a < 18) : (nI a < (18 : Int32)) = True := eq_true ((el_d18 (by omega)).mpr h)
theorem eb_h18 {a : Nat} (h : 18 ≤ a) (g : a < 2 ^ 31) : (nI a < (18 : Int32)) = False := eq_false (fun z => by have := (el_d18 g).mp z; omega)
theorem eb_i18 {a : Nat} (h : a = 18) : (nI a = (18 : Int32)) = True := eq_true ((el_e18 (by omega)).mpr h)
theorem eb_j18 {a : Nat} (h : a ≠ 18) (g : a < 2 ^ 31) : (nI a = (18 : Int32)) = False := eq_false (fun z => h ((el_e18 g).mp z))
theorem el_g18 (a : Nat) : nI a + (18 : Int32) = nI (a + 18) := nI_add a 18
theorem el_h18 (a : Nat) : (18 : Int32) + nI a = nI (18 + a) := nI_add 18 a
theorem el_i18 (a : Nat) : nI a * (18 : Int32) = nI (a * 18) := pk_mul a 18
theorem el_j18 (a : Nat) : (18 : Int32) * nI a = nI (18 * a) := pk_mul 18 a
theorem el_a20 {a : Nat} (h : a < 2 ^ 31) : (20 : Int32) ≤ nI a ↔ 20 ≤ a := nI_leI (a := 20) (by decide) h
theorem el_b20 {a : Nat} (h : a < 2 ^ 31) : nI a ≤ (20 : Int32) ↔ a ≤ 20 := nI_leI (b := 20) h (by decide)
theorem el_c20 {a : Nat} (h : a < 2 ^ 31) : (20 : Int32) < nI a ↔ 20 < a := nI_ltI (a := 20) (by decide) h
theorem el_d20 {a : Nat} (h : a < 2 ^ 31) : nI a < (20 : Int32) ↔ a < 20 := nI_ltI (b := 20) h (by decide)
theorem el_e20 {a : Nat} (h : a < 2 ^ 31) : nI a = (20 : Int32) ↔ a = 20 := nI_eq (b := 20) h (by decide)
theorem el_f20 {a : Nat} (h : a < 2 ^ 31) : (20 : Int32) = nI a ↔ 20 = a := nI_eq (a := 20) (by decide) h
theorem eb_a20 {a : Nat} (h : 20 ≤ a) (g : a < 2 ^ 31) : ((20 : Int32) ≤ nI a) = True := eq_true ((el_a20 g).mpr h)
theorem eb_b20 {a : Nat} (h : a < 20) : ((20 : Int32) ≤ nI a) = False := eq_false (fun z => by have := (el_a20 (by omega)).mp z; omega)
theorem eb_c20 {a : Nat} (h : a ≤ 20) : (nI a ≤ (20 : Int32)) = True := eq_true ((el_b20 (by omega)).mpr h)
theorem eb_d20 {a : Nat} (h : 20 < a) (g : a < 2 ^ 31) : (nI a ≤ (20 : Int32)) = False := eq_false (fun z => by have := (el_b20 g).mp z; omega)
theorem eb_e20 {a : Nat} (h : 20 < a) (g : a < 2 ^ 31) : ((20 : Int32) < nI a) = True := eq_true ((el_c20 g).mpr h)
theorem eb_f20 {a : Nat} (h : a ≤ 20) : ((20 : Int32) < nI a) = False := eq_false (fun z => by have := (el_c20 (by omega)).mp z; omega)
theorem eb_g20 {a : Nat} (h : a < 20) : (nI a < (20 : Int32)) = True := eq_true ((el_d20 (by omega)).mpr h)
theorem eb_h20 {a : Nat} (h : 20 ≤ a) (g : a < 2 ^ 31) : (nI a < (20 : Int32)) = False := eq_false (fun z => by have := (el_d20 g).mp z; omega)
theorem eb_i20 {a : Nat} (h : a = 20) : (nI a = (20 : Int32)) = True := eq_true ((el_e20 (by omega)).mpr h)
theorem eb_j20 {a : Nat} (h : a ≠ 20) (g : a < 2 ^ 31) : (nI a = (20 : Int32)) = False := eq_false (fun z => h ((el_e20 g).mp z))
theorem el_g20 (a : Nat) : nI a + (20 : Int32) = nI (a + 20) := nI_add a 20
theorem el_h20 (a : Nat) : (20 : Int32) + nI a = nI (20 + a) := nI_add 20 a
theorem el_i20 (a : Nat) : nI a * (20 : Int32) = nI (a * 20) := pk_mul a 20
theorem el_j20 (a : Nat) : (20 : Int32) * nI a = nI (20 * a) := pk_mul 20 a
theorem el_a32 {a : Nat} (h : a < 2 ^ 31) : (32 : Int32) ≤ nI a ↔ 32 ≤ a := nI_leI (a := 32) (by decide) h
theorem el_b32 {a : Nat} (h : a < 2 ^ 31) : nI a ≤ (32 : Int32) ↔ a ≤ 32 := nI_leI (b := 32) h (by decide)
theorem el_c32 {a : Nat} (h : a < 2 ^ 31) : (32 : Int32) < nI a ↔ 32 < a := nI_ltI (a := 32) (by decide) h
theorem el_d32 {a : Nat} (h : a < 2 ^ 31) : nI a < (32 : Int32) ↔ a < 32 := nI_ltI (b := 32) h (by decide)
theorem el_e32 {a : Nat} (h : a < 2 ^ 31) : nI a = (32 : Int32) ↔ a = 32 := nI_eq (b := 32) h (by decide)
theorem el_f32 {a : Nat} (h : a < 2 ^ 31) : (32 : Int32) = nI a ↔ 32 = a := nI_eq (a := 32) (by decide) h
theorem eb_a32 {a : Nat} (h : 32 ≤ a) (g : a < 2 ^ 31) : ((32 : Int32) ≤ nI a) = True := eq_true ((el_a32 g).mpr h)
theorem eb_b32 {a : Nat} (h : a < 32) : ((32 : Int32) ≤ nI a) = False := eq_false (fun z => by have := (el_a32 (by omega)).mp z; omega)
theorem eb_c32 {a : Nat} (h : a ≤ 32) : (nI a ≤ (32 : Int32)) = True := eq_true ((el_b32 (by omega)).mpr h)
theorem eb_d32 {a : Nat} (h : 32 < a) (g : a < 2 ^ 31) : (nI a ≤ (32 : Int32)) = False := eq_false (fun z => by have := (el_b32 g).mp z; omega)
theorem eb_e32 {a : Nat} (h : 32 < a) (g : a < 2 ^ 31) : ((32 : Int32) < nI a) = True := eq_true ((el_c32 g).mpr h)
theorem eb_f32 {a : Nat} (h : a ≤ 32) : ((32 : Int32) < nI a) = False := eq_false (fun z => by have := (el_c32 (by omega)).mp z; omega)
theorem eb_g32 {a : Nat} (h : a < 32) : (nI a < (32 : Int32)) = True := eq_true ((el_d32 (by omega)).mpr h)
theorem eb_h32 {a : Nat} (h : 32 ≤ a) (g : a < 2 ^ 31) : (nI a < (32 : Int32)) = False := eq_false (fun z => by have := (el_d32 g).mp z; omega)
theorem eb_i32 {a : Nat} (h : a = 32) : (nI a = (32 : Int32)) = True := eq_true ((el_e32 (by omega)).mpr h)
theorem eb_j32 {a : Nat} (h : a ≠ 32) (g : a < 2 ^ 31) : (nI a = (32 : Int32)) = False := eq_false (fun z => h ((el_e32 g).mp z))
theorem el_g32 (a : Nat) : nI a + (32 : Int32) = nI (a + 32) := nI_add a 32
theorem el_h32 (a : Nat) : (32 : Int32) + nI a = nI (32 + a) := nI_add 32 a
theorem el_i32 (a : Nat) : nI a * (32 : Int32) = nI (a * 32) := pk_mul a 32
theorem el_j32 (a : Nat) : (32 : Int32) * nI a = nI (32 * a) := pk_mul 32 a
theorem el_a33 {a : Nat} (h : a < 2 ^ 31) : (33 : Int32) ≤ nI a ↔ 33 ≤ a := nI_leI (a := 33) (by decide) h
theorem el_b33 {a : Nat} (h : a < 2 ^ 31) : nI a ≤ (33 : Int32) ↔ a ≤ 33 := nI_leI (b := 33) h (by decide)
theorem el_c33 {a : Nat} (h : a < 2 ^ 31) : (33 : Int32) < nI a ↔ 33 < a := nI_ltI (a := 33) (by decide) h
theorem el_d33 {a : Nat} (h : a < 2 ^ 31) : nI a < (33 : Int32) ↔ a < 33 := nI_ltI (b := 33) h (by decide)
theorem el_e33 {a : Nat} (h : a < 2 ^ 31) : nI a = (33 : Int32) ↔ a = 33 := nI_eq (b := 33) h (by decide)
theorem el_f33 {a : Nat} (h : a < 2 ^ 31) : (33 : Int32) = nI a ↔ 33 = a := nI_eq (a := 33) (by decide) h
theorem eb_a33 {a : Nat} (h : 33 ≤ a) (g : a < 2 ^ 31) : ((33 : Int32) ≤ nI a) = True := eq_true ((el_a33 g).mpr h)
theorem eb_b33 {a : Nat} (h : a < 33) : ((33 : Int32) ≤ nI a) = False := eq_false (fun z => by have := (el_a33 (by omega)).mp z; omega)
theorem eb_c33 {a : Nat} (h : a ≤ 33) : (nI a ≤ (33 : Int32)) = True := eq_true ((el_b33 (by omega)).mpr h)
theorem eb_d33 {a : Nat} (h : 33 < a) (g : a < 2 ^ 31) : (nI a ≤ (33 : Int32)) = False := eq_false (fun z => by have := (el_b33 g).mp z; omega)
theorem eb_e33 {a : Nat} (h : 33 < a) (g : a < 2 ^ 31) : ((33 : Int32) < nI a) = True := eq_true ((el_c33 g).mpr h)
theorem eb_f33 {a : Nat} (h : a ≤ 33) : ((33 : Int32) < nI a) = False := eq_false (fun z => by have := (el_c33 (by omega)).mp z; omega)
theorem eb_g33 {a : Nat} (h : a < 33) : (nI a < (33 : Int32)) = True := eq_true ((el_d33 (by omega)).mpr h)
theorem eb_h33 {a : Nat} (h : 33 ≤ a) (g : a < 2 ^ 31) : (nI a < (33 : Int32)) = False := eq_false (fun z => by have := (el_d33 g).mp z; omega)
theorem eb_i33 {a : Nat} (h : a = 33) : (nI a = (33 : Int32)) = True := eq_true ((el_e33 (by omega)).mpr h)
theorem eb_j33 {a : Nat} (h : a ≠ 33) (g : a < 2 ^ 31) : (nI a = (33 : Int32)) = False := eq_false (fun z => h ((el_e33 g).mp z))
theorem el_g33 (a : Nat) : nI a + (33 : Int32) = nI (a + 33) := nI_add a 33
theorem el_h33 (a : Nat) : (33 : Int32) + nI a = nI (33 + a) := nI_add 33 a
theorem el_i33 (a : Nat) : nI a * (33 : Int32) = nI (a * 33) := pk_mul a 33
theorem el_j33 (a : Nat) : (33 : Int32) * nI a = nI (33 * a) := pk_mul 33 a
theorem el_a39 {a : Nat} (h : a < 2 ^ 31) : (39 : Int32) ≤ nI a ↔ 39 ≤ a := nI_leI (a := 39) (by decide) h
theorem el_b39 {a : Nat} (h : a < 2 ^ 31) : nI a ≤ (39 : Int32) ↔ a ≤ 39 := nI_leI (b := 39) h (by decide)
theorem el_c39 {a : Nat} (h : a < 2 ^ 31) : (39 : Int32) < nI a ↔ 39 < a := nI_ltI (a := 39) (by decide) h
theorem el_d39 {a : Nat} (h : a < 2 ^ 31) : nI a < (39 : Int32) ↔ a < 39 := nI_ltI (b := 39) h (by decide)
theorem el_e39 {a : Nat} (h : a < 2 ^ 31) : nI a = (39 : Int32) ↔ a = 39 := nI_eq (b := 39) h (by decide)
theorem el_f39 {a : Nat} (h : a < 2 ^ 31) : (39 : Int32) = nI a ↔ 39 = a := nI_eq (a := 39) (by decide) h
theorem eb_a39 {a : Nat} (h : 39 ≤ a) (g : a < 2 ^ 31) : ((39 : Int32) ≤ nI a) = True := eq_true ((el_a39 g).mpr h)
theorem eb_b39 {a : Nat} (h : a < 39) : ((39 : Int32) ≤ nI a) = False := eq_false (fun z => by have := (el_a39 (by omega)).mp z; omega)
theorem eb_c39 {a : Nat} (h : a ≤ 39) : (nI a ≤ (39 : Int32)) = True := eq_true ((el_b39 (by omega)).mpr h)
theorem eb_d39 {a : Nat} (h : 39 < a) (g : a < 2 ^ 31) : (nI a ≤ (39 : Int32)) = False := eq_false (fun z => by have := (el_b39 g).mp z; omega)
theorem eb_e39 {a : Nat} (h : 39 < a) (g : a < 2 ^ 31) : ((39 : Int32) < nI a) = True := eq_true ((el_c39 g).mpr h)
theorem eb_f39 {a : Nat} (h : a ≤ 39) : ((39 : Int32) < nI a) = False := eq_false (fun z => by have := (el_c39 (by omega)).mp z; omega)
theorem eb_g39 {a : Nat} (h : a < 39) : (nI a < (39 : Int32)) = True := eq_true ((el_d39 (by omega)).mpr h)
theorem eb_h39 {a : Nat} (h : 39 ≤ a) (g : a < 2 ^ 31) : (nI a < (39 : Int32)) = False := eq_false (fun z => by have := (el_d39 g).mp z; omega)
theorem eb_i39 {a : Nat} (h : a = 39) : (nI a = (39 : Int32)) = True := eq_true ((el_e39 (by omega)).mpr h)
theorem eb_j39 {a : Nat} (h : a ≠ 39) (g : a < 2 ^ 31) : (nI a = (39 : Int32)) = False := eq_false (fun z => h ((el_e39 g).mp z))
theorem el_g39 (a : Nat) : nI a + (39 : Int32) = nI (a + 39) := nI_add a 39
theorem el_h39 (a : Nat) : (39 : Int32) + nI a = nI (39 + a) := nI_add 39 a
theorem el_i39 (a : Nat) : nI a * (39 : Int32) = nI (a * 39) := pk_mul a 39
theorem el_j39 (a : Nat) : (39 : Int32) * nI a = nI (39 * a) := pk_mul 39 a
theorem el_a40 {a : Nat} (h : a < 2 ^ 31) : (40 : Int32) ≤ nI a ↔ 40 ≤ a := nI_leI (a := 40) (by decide) h
theorem el_b40 {a : Nat} (h : a < 2 ^ 31) : nI a ≤ (40 : Int32) ↔ a ≤ 40 := nI_leI (b := 40) h (by decide)
theorem el_c40 {a : Nat} (h : a < 2 ^ 31) : (40 : Int32) < nI a ↔ 40 < a := nI_ltI (a := 40) (by decide) h
theorem el_d40 {a : Nat} (h : a < 2 ^ 31) : nI a < (40 : Int32) ↔ a < 40 := nI_ltI (b := 40) h (by decide)
theorem el_e40 {a : Nat} (h : a < 2 ^ 31) : nI a = (40 : Int32) ↔ a = 40 := nI_eq (b := 40) h (by decide)
theorem el_f40 {a : Nat} (h : a < 2 ^ 31) : (40 : Int32) = nI a ↔ 40 = a := nI_eq (a := 40) (by decide) h
theorem eb_a40 {a : Nat} (h : 40 ≤ a) (g : a < 2 ^ 31) : ((40 : Int32) ≤ nI a) = True := eq_true ((el_a40 g).mpr h)
theorem eb_b40 {a : Nat} (h : a < 40) : ((40 : Int32) ≤ nI a) = False := eq_false (fun z => by have := (el_a40 (by omega)).mp z; omega)
theorem eb_c40 {a : Nat} (h : a ≤ 40) : (nI a ≤ (40 : Int32)) = True := eq_true ((el_b40 (by omega)).mpr h)
theorem eb_d40 {a : Nat} (h : 40 < a) (g : a < 2 ^ 31) : (nI a ≤ (40 : Int32)) = False := eq_false (fun z => by have := (el_b40 g).mp z; omega)
theorem eb_e40 {a : Nat} (h : 40 < a) (g : a < 2 ^ 31) : ((40 : Int32) < nI a) = True := eq_true ((el_c40 g).mpr h)
theorem eb_f40 {a : Nat} (h : a ≤ 40) : ((40 : Int32) < nI a) = False := eq_false (fun z => by have := (el_c40 (by omega)).mp z; omega)
theorem eb_g40 {a : Nat} (h : a < 40) : (nI a < (40 : Int32)) = True := eq_true ((el_d40 (by omega)).mpr h)
theorem eb_h40 {a : Nat} (h : 40 ≤ a) (g : a < 2 ^ 31) : (nI a < (40 : Int32)) = False := eq_false (fun z => by have := (el_d40 g).mp z; omega)
theorem eb_i40 {a : Nat} (h : a = 40) : (nI a = (40 : Int32)) = True := eq_true ((el_e40 (by omega)).mpr h)
theorem eb_j40 {a : Nat} (h : a ≠ 40) (g : a < 2 ^ 31) : (nI a = (40 : Int32)) = False := eq_false (fun z => h ((el_e40 g).mp z))
theorem el_g40 (a : Nat) : nI a + (40 : Int32) = nI (a + 40) := nI_add a 40
theorem el_h40 (a : Nat) : (40 : Int32) + nI a = nI (40 + a) := nI_add 40 a
theorem el_i40 (a : Nat) : nI a * (40 : Int32) = nI (a * 40) := pk_mul a 40
theorem el_j40 (a : Nat) : (40 : Int32) * nI a = nI (40 * a) := pk_mul 40 a
theorem el_a42 {a : Nat} (h : a < 2 ^ 31) : (42 : Int32) ≤ nI a ↔ 42 ≤ a := nI_leI (a := 42) (by decide) h
theorem el_b42 {a : Nat} (h : a < 2 ^ 31) : nI a ≤ (42 : Int32) ↔ a ≤ 42 := nI_leI (b := 42) h (by decide)
theorem el_c42 {a : Nat} (h : a < 2 ^ 31) : (42 : Int32) < nI a ↔ 42 < a := nI_ltI (a := 42) (by decide) h
theorem el_d42 {a : Nat} (h : a < 2 ^ 31) : nI a < (42 : Int32) ↔ a < 42 := nI_ltI (b := 42) h (by decide)
theorem el_e42 {a : Nat} (h : a < 2 ^ 31) : nI a = (42 : Int32) ↔ a = 42 := nI_eq (b := 42) h (by decide)
theorem el_f42 {a : Nat} (h : a < 2 ^ 31) : (42 : Int32) = nI a ↔ 42 = a := nI_eq (a := 42) (by decide) h
theorem eb_a42 {a : Nat} (h : 42 ≤ a) (g : a < 2 ^ 31) : ((42 : Int32) ≤ nI a) = True := eq_true ((el_a42 g).mpr h)
theorem eb_b42 {a : Nat} (h : a < 42) : ((42 : Int32) ≤ nI a) = False := eq_false (fun z => by have := (el_a42 (by omega)).mp z; omega)
theorem eb_c42 {a : Nat} (h : a ≤ 42) : (nI a ≤ (42 : Int32)) = True := eq_true ((el_b42 (by omega)).mpr h)
theorem eb_d42 {a : Nat} (h : 42 < a) (g : a < 2 ^ 31) : (nI a ≤ (42 : Int32)) = False := eq_false (fun z => by have := (el_b42 g).mp z; omega)
theorem eb_e42 {a : Nat} (h : 42 < a) (g : a < 2 ^ 31) : ((42 : Int32) < nI a) = True := eq_true ((el_c42 g).mpr h)
theorem eb_f42 {a : Nat} (h : a ≤ 42) : ((42 : Int32) < nI a) = False := eq_false (fun z => by have := (el_c42 (by omega)).mp z; omega)
theorem eb_g42 {a : Nat} (h : a < 42) : (nI a < (42 : Int32)) = True := eq_true ((el_d42 (by omega)).mpr h)
theorem eb_h42 {a : Nat} (h : 42 ≤ a) (g : a < 2 ^ 31) : (nI a < (42 : Int32)) = False := eq_false (fun z => by have := (el_d42 g).mp z; omega)
theorem eb_i42 {a : Nat} (h : a = 42) : (nI a = (42 : Int32)) = True := eq_true ((el_e42 (by omega)).mpr h)
theorem eb_j42 {a : Nat} (h : a ≠ 42) (g : a < 2 ^ 31) : (nI a = (42 : Int32)) = False := eq_false (fun z => h ((el_e42 g).mp z))
theorem el_g42 (a : Nat) : nI a + (42 : Int32) = nI (a + 42) := nI_add a 42
theorem el_h42 (a : Nat) : (42 : Int32) + nI a = nI (42 + a) := nI_add 42 a
theorem el_i42 (a : Nat) : nI a * (42 : Int32) = nI (a * 42) := pk_mul a 42
theorem el_j42 (a : Nat) : (42 : Int32) * nI a = nI (42 * a) := pk_mul 42 a
theorem el_a90 {a : Nat} (h : a < 2 ^ 31) : (90 : Int32) ≤ nI a ↔ 90 ≤ a := nI_leI (a := 90) (by decide) h
theorem el_b90 {a : Nat} (h : a < 2 ^ 31) : nI a ≤ (90 : Int32) ↔ a ≤ 90 := nI_leI (b := 90) h (by decide)
theorem el_c90 {a : Nat} (h : a < 2 ^ 31) : (90 : Int32) < nI a ↔ 90 < a := nI_ltI (a := 90) (by decide) h
theorem el_d90 {a : Nat} (h : a < 2 ^ 31) : nI a < (90 : Int32) ↔ a < 90 := nI_ltI (b := 90) h (by decide)
theorem el_e90 {a : Nat} (h : a < 2 ^ 31) : nI a = (90 : Int32) ↔ a = 90 := nI_eq (b := 90) h (by decide)
theorem el_f90 {a : Nat} (h : a < 2 ^ 31) : (90 : Int32) = nI a ↔ 90 = a := nI_eq (a := 90) (by decide) h
theorem eb_a90 {a : Nat} (h : 90 ≤ a) (g : a < 2 ^ 31) : ((90 : Int32) ≤ nI a) = True := eq_true ((el_a90 g).mpr h)
theorem eb_b90 {a : Nat} (h : a < 90) : ((90 : Int32) ≤ nI a) = False := eq_false (fun z => by have := (el_a90 (by omega)).mp z; omega)
theorem eb_c90 {a : Nat} (h : a ≤ 90) : (nI a ≤ (90 : Int32)) = True := eq_true ((el_b90 (by omega)).mpr h)
theorem eb_d90 {a : Nat} (h : 90 < a) (g : a < 2 ^ 31) : (nI a ≤ (90 : Int32)) = False := eq_false (fun z => by have := (el_b90 g).mp z; omega)
theorem eb_e90 {a : Nat} (h : 90 < a) (g : a < 2 ^ 31) : ((90 : Int32) < nI a) = True := eq_true ((el_c90 g).mpr h)
theorem eb_f90 {a : Nat} (h : a ≤ 90) : ((90 : Int32) < nI a) = False := eq_false (fun z => by have := (el_c90 (by omega)).mp z; omega)
theorem eb_g90 {a : Nat} (h : a < 90) : (nI a < (90 : Int32)) = True := eq_true ((el_d90 (by omega)).mpr h)
theorem eb_h90 {a : Nat} (h : 90 ≤ a) (g : a < 2 ^ 31) : (nI a < (90 : Int32)) = False := eq_false (fun z => by have := (el_d90 g).mp z; omega)
theorem eb_i90 {a : Nat} (h : a = 90) : (nI a = (90 : Int32)) = True := eq_true ((el_e90 (by omega)).mpr h)
theorem eb_j90 {a : Nat} (h : a ≠ 90) (g : a < 2 ^ 31) : (nI a = (90 : Int32)) = False := eq_false (fun z => h ((el_e90 g).mp z))
theorem el_g90 (a : Nat) : nI a + (90 : Int32) = nI (a + 90) := nI_add a 90
theorem el_h90 (a : Nat) : (90 : Int32) + nI a = nI (90 + a) := nI_add 90 a
theorem el_i90 (a : Nat) : nI a * (90 : Int32) = nI (a * 90) := pk_mul a 90
theorem el_j90 (a : Nat) : (90 : Int32) * nI a = nI (90 * a) := pk_mul 90 a
theorem el_a100 {a : Nat} (h : a < 2 ^ 31) : (100 : Int32) ≤ nI a ↔ 100 ≤ a := nI_leI (a := 100) (by decide) h
theorem el_b100 {a : Nat} (h : a < 2 ^ 31) : nI a ≤ (100 : Int32) ↔ a ≤ 100 := nI_leI (b := 100) h (by decide)
theorem el_c100 {a : Nat} (h : a < 2 ^ 31) : (100 : Int32) < nI a ↔ 100 < a := nI_ltI (a := 100) (by decide) h
theorem el_d100 {a : Nat} (h : a < 2 ^ 31) : nI a < (100 : Int32) ↔ a < 100 := nI_ltI (b := 100) h (by decide)
theorem el_e100 {a : Nat} (h : a < 2 ^ 31) : nI a = (100 : Int32) ↔ a = 100 := nI_eq (b := 100) h (by decide)
theorem el_f100 {a : Nat} (h : a < 2 ^ 31) : (100 : Int32) = nI a ↔ 100 = a := nI_eq (a := 100) (by decide) h
theorem eb_a100 {a : Nat} (h : 100 ≤ a) (g : a < 2 ^ 31) : ((100 : Int32) ≤ nI a) = True := eq_true ((el_a100 g).mpr h)
theorem eb_b100 {a : Nat} (h : a < 100) : ((100 : Int32) ≤ nI a) = False := eq_false (fun z => by have := (el_a100 (by omega)).mp z; omega)
theorem eb_c100 {a : Nat} (h : a ≤ 100) : (nI a ≤ (100 : Int32)) = True := eq_true ((el_b100 (by omega)).mpr h)
theorem eb_d100 {a : Nat} (h : 100 < a) (g : a < 2 ^ 31) : (nI a ≤ (100 : Int32)) = False := eq_false (fun z => by have := (el_b100 g).mp z; omega)
theorem eb_e100 {a : Nat} (h : 100 < a) (g : a < 2 ^ 31) : ((100 : Int32) < nI a) = True := eq_true ((el_c100 g).mpr h)
theorem eb_f100 {a : Nat} (h : a ≤ 100) : ((100 : Int32) < nI a) = False := eq_false (fun z => by have := (el_c100 (by omega)).mp z; omega)
theorem eb_g100 {a : Nat} (h : a < 100) : (nI a < (100 : Int32)) = True := eq_true ((el_d100 (by omega)).mpr h)
theorem eb_h100 {a : Nat} (h : 100 ≤ a) (g : a < 2 ^ 31) : (nI a < (100 : Int32)) = False := eq_false (fun z => by have := (el_d100 g).mp z; omega)
theorem eb_i100 {a : Nat} (h : a = 100) : (nI a = (100 : Int32)) = True := eq_true ((el_e100 (by omega)).mpr h)
theorem eb_j100 {a : Nat} (h : a ≠ 100) (g : a < 2 ^ 31) : (nI a = (100 : Int32)) = False := eq_false (fun z => h ((el_e100 g).mp z))
theorem el_g100 (a : Nat) : nI a + (100 : Int32) = nI (a + 100) := nI_add a 100
theorem el_h100 (a : Nat) : (100 : Int32) + nI a = nI (100 + a) := nI_add 100 a
theorem el_i100 (a : Nat) : nI a * (100 : Int32) = nI (a * 100) := pk_mul a 100
theorem el_j100 (a : Nat) : (100 : Int32) * nI a = nI (100 * a) := pk_mul 100 a
theorem el_a2000 {a : Nat} (h : a < 2 ^ 31) : (2000 : Int32) ≤ nI a ↔ 2000 ≤ a := nI_leI (a := 2000) (by decide) h
theorem el_b2000 {a : Nat} (h : a < 2 ^ 31) : nI a ≤ (2000 : Int32) ↔ a ≤ 2000 := nI_leI (b := 2000) h (by decide)
theorem el_c2000 {a : Nat} (h : a < 2 ^ 31) : (2000 : Int32) < nI a ↔ 2000 < a := nI_ltI (a := 2000) (by decide) h
theorem el_d2000 {a : Nat} (h : a < 2 ^ 31) : nI a < (2000 : Int32) ↔ a < 2000 := nI_ltI (b := 2000) h (by decide)
theorem el_e2000 {a : Nat} (h : a < 2 ^ 31) : nI a = (2000 : Int32) ↔ a = 2000 := nI_eq (b := 2000) h (by decide)
theorem el_f2000 {a : Nat} (h : a < 2 ^ 31) : (2000 : Int32) = nI a ↔ 2000 = a := nI_eq (a := 2000) (by decide) h
theorem eb_a2000 {a : Nat} (h : 2000 ≤ a) (g : a < 2 ^ 31) : ((2000 : Int32) ≤ nI a) = True := eq_true ((el_a2000 g).mpr h)
theorem eb_b2000 {a : Nat} (h : a < 2000) : ((2000 : Int32) ≤ nI a) = False := eq_false (fun z => by have := (el_a2000 (by omega)).mp z; omega)
theorem eb_c2000 {a : Nat} (h : a ≤ 2000) : (nI a ≤ (2000 : Int32)) = True := eq_true ((el_b2000 (by omega)).mpr h)
theorem eb_d2000 {a : Nat} (h : 2000 < a) (g : a < 2 ^ 31) : (nI a ≤ (2000 : Int32)) = False := eq_false (fun z => by have := (el_b2000 g).mp z; omega)
theorem eb_e2000 {a : Nat} (h : 2000 < a) (g : a < 2 ^ 31) : ((2000 : Int32) < nI a) = True := eq_true ((el_c2000 g).mpr h)
theorem eb_f2000 {a : Nat} (h : a ≤ 2000) : ((2000 : Int32) < nI a) = False := eq_false (fun z => by have := (el_c2000 (by omega)).mp z; omega)
theorem eb_g2000 {a : Nat} (h : a < 2000) : (nI a < (2000 : Int32)) = True := eq_true ((el_d2000 (by omega)).mpr h)
theorem eb_h2000 {a : Nat} (h : 2000 ≤ a) (g : a < 2 ^ 31) : (nI a < (2000 : Int32)) = False := eq_false (fun z => by have := (el_d2000 g).mp z; omega)
theorem eb_i2000 {a : Nat} (h : a = 2000) : (nI a = (2000 : Int32)) = True := eq_true ((el_e2000 (by omega)).mpr h)
theorem eb_j2000 {a : Nat} (h : a ≠ 2000) (g : a < 2 ^ 31) : (nI a = (2000 : Int32)) = False := eq_false (fun z => h ((el_e2000 g).mp z))
theorem el_g2000 (a : Nat) : nI a + (2000 : Int32) = nI (a + 2000) := nI_add a 2000
theorem el_h2000 (a : Nat) : (2000 : Int32) + nI a = nI (2000 + a) := nI_add 2000 a
theorem el_i2000 (a : Nat) : nI a * (2000 : Int32) = nI (a * 2000) := pk_mul a 2000
theorem el_j2000 (a : Nat) : (2000 : Int32) * nI a = nI (2000 * a) := pk_mul 2000 a
end
end
section
section
/-! copies of a row of cells; a projection's states -/
def es_cpy (a : Nat → Int32) (t s n : Nat) : Nat → Int32 := fun j => if t ≤ j ∧ j < t + n then a (s + (j - t)) else a j
theorem es_cpy_0 {a : Nat → Int32} {t s : Nat} : es_cpy a t s 0 = a := by
  funext j
  simp only [es_cpy]
  rw [if_neg (by omega)]
theorem es_cpy_s {a : Nat → Int32} {t s i : Nat} (h : s + i < t ∨ t + i ≤ s + i) : upd (es_cpy a t s i) (t + i) (es_cpy a t s i (s + i)) = es_cpy a t s (i + 1) := by
  funext j
  by_cases e : j = t + i
  · subst e
    rw [pk_us]
    simp only [es_cpy]
    rw [if_neg (by omega), if_pos (by omega), show t + i - t = i by omega]
  · rw [pk_un e]
    simp only [es_cpy]
    by_cases z : t ≤ j ∧ j < t + i
    · rw [if_pos z, if_pos (by omega)]
    · rw [if_neg z, if_neg (by omega)]
theorem es_cpy_i {a : Nat → Int32} {t s n i : Nat} (h : i < n) : es_cpy a t s n (t + i) = a (s + i) := by
  simp only [es_cpy]
  rw [if_pos (by omega), show t + i - t = i by omega]
theorem es_cpy_o {a : Nat → Int32} {t s n j : Nat} (h : j < t ∨ t + n ≤ j) : es_cpy a t s n j = a j := if_neg (by omega)
/-- row r of the states: r = 3 * kind + p -/
def es_Eq (b : Nat) (st po ce : Nat → Int32) (r : Nat) : Prop :=
  (∃ a, a ≤ b ∧ st (11 * r + 10) = nI a ∧ po r = nI a) ∧ ∀ k, k < 10 → st (11 * r + k) = ce (10 * r + k)
theorem es_Eq_m {b b' r : Nat} {st po ce : Nat → Int32} (H : es_Eq b st po ce r) (h : b ≤ b') : es_Eq b' st po ce r := by
  obtain ⟨⟨a, ha, e⟩, h2⟩ := H
  exact ⟨⟨a, by omega, e⟩, h2⟩
theorem es_Eq_c {b r : Nat} {st po ce st' po' ce' : Nat → Int32} (H : es_Eq b st po ce r) (h1 : ∀ k, k < 11 → st' (11 * r + k) = st (11 * r + k)) (h2 : po' r = po r) (h3 : ∀ k, k < 10 → ce' (10 * r + k) = ce (10 * r + k)) : es_Eq b st' po' ce' r := by
  obtain ⟨⟨a, ha, e1, e2⟩, h⟩ := H
  refine ⟨⟨a, ha, ?_, ?_⟩, fun k hk => ?_⟩
  · rw [h1 10 (by omega)]; exact e1
  · rw [h2]; exact e2
  · rw [h1 k (by omega), h3 k hk]; exact h k hk
/-- a copy from row s to row t -/
theorem es_Eq_t {b s t : Nat} {st po ce : Nat → Int32} (H : es_Eq b st po ce s) : es_Eq b (es_cpy st (11 * t) (11 * s) 11) (upd po t (po s)) (es_cpy ce (10 * t) (10 * s) 10) t := by
  obtain ⟨⟨a, ha, e1, e2⟩, h⟩ := H
  refine ⟨⟨a, ha, ?_, ?_⟩, fun k hk => ?_⟩
  · rw [es_cpy_i (by omega)]; exact e1
  · rw [pk_us]; exact e2
  · rw [es_cpy_i (by omega), es_cpy_i hk]; exact h k hk
theorem es_Eq_o {b s t r : Nat} {st po ce : Nat → Int32} (H : es_Eq b st po ce r) (h : r ≠ t) : es_Eq b (es_cpy st (11 * t) (11 * s) 11) (upd po t (po s)) (es_cpy ce (10 * t) (10 * s) 10) r :=
  es_Eq_c H (fun k hk => es_cpy_o (by omega)) (pk_un h) (fun k hk => es_cpy_o (by omega))
theorem es_Eq_ox {b s t r : Nat} {st po ce : Nat → Int32} (H : es_Eq b st po ce r) (h : r ≠ t) : es_Eq b (es_cpy st (11 * t) (11 * s) 11) po ce r :=
  es_Eq_c H (fun k hk => es_cpy_o (by omega)) rfl (fun k hk => rfl)
theorem es_Eq_oy {b s t r : Nat} {st po ce : Nat → Int32} (H : es_Eq b st po ce r) (h : r ≠ t) : es_Eq b st (upd po t (po s)) (es_cpy ce (10 * t) (10 * s) 10) r :=
  es_Eq_c H (fun k hk => rfl) (pk_un h) (fun k hk => es_cpy_o (by omega))
/-- what the two hold of the projections; L: the lengths of the programs -/
def es_St (c f : Nat) (L : Nat → Nat) (st xn po ce yn : Nat → Int32) : Prop :=
  ∀ p, p < 3 → 0 < L p → es_Eq c st po ce p ∧ es_Eq f st po ce (3 + p) ∧ (xn p = 0 ↔ yn p = 0) ∧ (¬ xn p = 0 → es_Eq c st po ce (6 + p))
theorem es_St_m {c f c' : Nat} {L : Nat → Nat} {st xn po ce yn : Nat → Int32} (H : es_St c f L st xn po ce yn) (h : c ≤ c') : es_St c' f L st xn po ce yn := by
  intro p hp hl
  obtain ⟨a, b, d, e⟩ := H p hp hl
  exact ⟨es_Eq_m a h, b, d, fun z => es_Eq_m (e z) h⟩
end
end
section
section
/-! an entry comes into a sorted row -/
theorem es_ntri {a b : Int32} (h : ¬ a < b) (e : ¬ a = b) : b < a := by
  rw [es_lt_iff] at *
  have : ¬ a.toInt = b.toInt := fun z => e (Int32.toInt_inj.mp z)
  omega
theorem es_ltne {a b : Int32} (h : a < b) : ¬ a = b := fun e => by rw [e] at h; exact es_ltirr h
theorem es_ltas {a b : Int32} (h : a < b) : ¬ b < a := fun g => es_ltirr (es_lttr h g)
/-- the place where a belongs -/
theorem es_place {b n : Nat} {rp : Nat → Int32} {x : Int32} (H : es_Srt b n rp) (hd : ∀ i, i < n → ¬ rp (b + i) = x) :
    ∃ j, j ≤ n ∧ (∀ i, i < j → rp (b + i) < x) ∧ (∀ i, j ≤ i → i < n → x < rp (b + i)) := by
  rcases es_fst (fun i => ¬ rp (b + i) < x) n n 0 (by omega) with ⟨j, h1, h2, h3, h4⟩ | h
  · refine ⟨j, by omega, fun i hi => ?_, fun i hi hn => ?_⟩
    · have := h4 i (by omega) hi
      exact Classical.byContradiction this
    · have hj := es_ntri h3 (hd j h2)
      by_cases e : i = j
      · rw [e]; exact hj
      · exact es_lttr hj (H j i (by omega) hn)
  · exact ⟨n, Nat.le_refl n, fun i hi => Classical.byContradiction (h i (by omega) hi), fun i h1 h2 => by omega⟩
/-- what lies at a place of the row after it -/
theorem es_ins_w {b n j : Nat} (r : Nat → Int32) (x : Int32) (hj : j ≤ n) (i : Nat) (hi : i < n + 1) :
    (i = j ∧ upd (es_ins r (b + j) (b + n)) (b + j) x (b + i) = x) ∨ (∃ i', i' < n ∧ (i < j → i' = i) ∧ (j ≤ i → i' + 1 = i) ∧ i ≠ j ∧ upd (es_ins r (b + j) (b + n)) (b + j) x (b + i) = r (b + i')) := by
  by_cases e : i = j
  · subst e
    exact Or.inl ⟨rfl, pk_us⟩
  · refine Or.inr ?_
    by_cases z : i < j
    · exact ⟨i, by omega, fun _ => rfl, fun _ => by omega, e, by rw [pk_un (by omega), es_ins_o (by omega)]⟩
    · exact ⟨i - 1, by omega, fun _ => by omega, fun _ => by omega, e, by rw [pk_un (by omega), es_ins_i (by omega) (by omega), show b + i - 1 = b + (i - 1) by omega]⟩
theorem es_ins_f {b n j k : Nat} {r : Nat → Int32} {x : Int32} (hj : j ≤ n) (h : k < b ∨ b + n < k) : upd (es_ins r (b + j) (b + n)) (b + j) x k = r k := by
  rw [pk_un (by omega), es_ins_o (by omega)]
theorem es_Row_i {bx by_ n lim j a : Nat} {tm : Int32} {rp rt wh oft : Nat → Int32} (H : es_Row bx by_ n lim rp rt wh oft) (hj : j ≤ n) (ha : a < lim) :
    es_Row bx by_ (n + 1) lim (upd (es_ins rp (bx + j) (bx + n)) (bx + j) (nI a)) (upd (es_ins rt (bx + j) (bx + n)) (bx + j) tm) (upd (es_ins wh (by_ + j) (by_ + n)) (by_ + j) (nI a)) (upd (es_ins oft (by_ + j) (by_ + n)) (by_ + j) tm) := by
  intro i hi
  by_cases e : i = j
  · subst e
    rw [pk_us, pk_us, pk_us, pk_us]
    exact ⟨⟨a, ha, rfl⟩, rfl, rfl⟩
  · rw [pk_un (by omega), pk_un (by omega), pk_un (by omega), pk_un (by omega)]
    by_cases z : i < j
    · rw [es_ins_o (by omega), es_ins_o (by omega), es_ins_o (by omega), es_ins_o (by omega)]
      exact H i (by omega)
    · rw [es_ins_i (by omega) (by omega), es_ins_i (by omega) (by omega), es_ins_i (by omega) (by omega), es_ins_i (by omega) (by omega), show bx + i - 1 = bx + (i - 1) by omega, show by_ + i - 1 = by_ + (i - 1) by omega]
      exact H (i - 1) (by omega)
theorem es_Srt_i {b n j : Nat} {rp : Nat → Int32} {x : Int32} (H : es_Srt b n rp) (hj : j ≤ n) (h1 : ∀ i, i < j → rp (b + i) < x) (h2 : ∀ i, j ≤ i → i < n → x < rp (b + i)) :
    es_Srt b (n + 1) (upd (es_ins rp (b + j) (b + n)) (b + j) x) := by
  intro y z hyz hz
  rcases es_ins_w (b := b) rp x hj y (by omega) with ⟨e1, e2⟩ | ⟨y', a1, a2, a3, a4, a5⟩
  · rcases es_ins_w (b := b) rp x hj z hz with ⟨f1, f2⟩ | ⟨z', b1, b2, b3, b4, b5⟩
    · omega
    · rw [e2, b5]
      exact h2 z' (by omega) b1
  · rcases es_ins_w (b := b) rp x hj z hz with ⟨f1, f2⟩ | ⟨z', b1, b2, b3, b4, b5⟩
    · rw [a5, f2]
      exact h1 y' (by omega)
    · rw [a5, b5]
      exact H y' z' (by omega) b1
end
end
section
section
/-! the relation -/
def es_RL (c f q : Nat) (x_records x_removedCount x_flushed : Int32) (x_recordStream x_recordType x_recordVersion x_recordValue x_originProjection x_originPosition x_originInstruction x_joined x_removed x_eventCount x_cutLevel : Nat → Int32) (y_count y_flushed y_calls : Int32) (y_isCut y_removed y_stream y_type y_from y_by y_value y_version y_on y_call : Nat → Int32) : Prop :=
  x_records = nI c ∧ y_count = nI c ∧ x_flushed = nI f ∧ y_flushed = nI f ∧ y_calls = nI q ∧ x_removedCount = nI (es_rc y_removed c) ∧
  y_stream = x_recordStream ∧ x_recordType = es_T y_isCut y_type ∧ x_recordVersion = es_V y_isCut y_version y_value ∧ x_recordValue = es_W y_isCut y_value ∧
  y_from = x_originProjection ∧ y_on = x_originPosition ∧ y_removed = x_removed ∧
  es_Log c f q y_isCut y_removed y_stream y_type y_from y_by y_value y_version y_on y_call x_originInstruction x_joined x_eventCount x_cutLevel
def es_RD (d : Nat) (x_drafted : Int32) (x_draftType x_draftValue : Nat → Int32) (y_drafted : Int32) (y_draftType y_draftValue : Nat → Int32) : Prop :=
  x_drafted = nI d ∧ y_drafted = nI d ∧ d ≤ 4 ∧ y_draftType = x_draftType ∧ y_draftValue = x_draftValue ∧ ∀ i, ∃ t, t < 8 ∧ y_draftType i = nI t
def es_RP (L : Nat → Nat) (x_programLength x_ops x_arguments y_length y_op y_with : Nat → Int32) : Prop :=
  y_length = x_programLength ∧ (∀ p, y_length p = nI (L p) ∧ L p ≤ 14) ∧
  (∀ p i, p < 4 → i < L p → x_ops (14 * p + i) = y_op (14 * p + i) ∧ x_arguments (14 * p + i) = y_with (14 * p + i)) ∧
  (∀ i, i < L 3 → ∃ o, o < 14 ∧ y_op (42 + i) = nI o) ∧
  (∀ p, p < 3 → es_OK (L p) (fun i => y_op (14 * p + i)) (fun i => y_with (14 * p + i)))
def es_RS (c f : Nat) (L : Nat → Nat) (x_states x_noted y_position y_cells y_noted : Nat → Int32) : Prop := es_St c f L x_states x_noted y_position y_cells y_noted
def es_Frm (g : Nat) (gt fo wa : Nat → Int32) : Prop := (fo g = 0 ∧ gt g = -1) ∨ (¬ fo g = 0 ∧ ∃ t, t ≤ 8 ∧ gt g = nI t ∧ wa g = nI t)
def es_RG (c f : Nat) (x_groupType x_cursor x_keptCursor x_parked x_rowCount x_rowPosition x_rowTimes x_rowDue : Nat → Int32) (x_time : Int32) (y_formed y_wanted y_cursor y_parked y_many y_where y_often y_due : Nat → Int32) (y_time : Int32) : Prop :=
  y_parked = x_parked ∧ y_time = x_time ∧ ∀ g, g < 2 → es_Frm g x_groupType y_formed y_wanted ∧
    ∃ nt nw nk u k, (y_formed g = 0 → nt = 0) ∧ es_Grp c f g nt nw nk u k x_cursor x_keptCursor x_rowCount x_rowPosition x_rowTimes x_rowDue y_cursor y_many y_where y_often y_due
def es_RF (c : Nat) (x_foundAt : Int32) (y_found y_isCut y_stream y_type y_from y_value y_version y_on : Nat → Int32) : Prop :=
  (x_foundAt = -4 ∧ ∀ w, w < 6 → y_found w = 0) ∨
  (∃ a, a < c ∧ x_foundAt = nI a ∧ y_isCut a = 0 ∧ y_found 0 = y_stream a ∧ y_found 1 = y_version a ∧ y_found 2 = y_type a ∧ y_found 3 = y_value a ∧ y_found 4 = y_from a ∧ y_found 5 = y_on a)
def es_Q (c f d : Nat) (L : Nat → Nat) (q : Nat) (u : SX) (v : SY) : Prop := match u with
  | (x_records, x_removedCount, x_flushed, x_drafted, x_height, x_time, x_foundAt, x_recordStream, x_recordType, x_recordVersion, x_recordValue, x_originProjection, x_originPosition, x_originInstruction, x_joined, x_removed, x_eventCount, x_cutLevel, x_draftType, x_draftValue, x_ops, x_arguments, x_programLength, x_states, x_noted, x_stack, x_metHeight, x_groupType, x_cursor, x_keptCursor, x_parked, x_rowCount, x_rowPosition, x_rowTimes, x_rowDue) => match v with
    | (y_count, y_flushed, y_calls, y_drafted, y_top, y_time, y_isCut, y_removed, y_stream, y_type, y_from, y_by, y_value, y_version, y_on, y_call, y_draftType, y_draftValue, y_op, y_with, y_length, y_height, y_torn, y_stack, y_position, y_cells, y_noted, y_wanted, y_formed, y_cursor, y_parked, y_where, y_often, y_due, y_many, y_found) => es_RL c f q x_records x_removedCount x_flushed x_recordStream x_recordType x_recordVersion x_recordValue x_originProjection x_originPosition x_originInstruction x_joined x_removed x_eventCount x_cutLevel y_count y_flushed y_calls y_isCut y_removed y_stream y_type y_from y_by y_value y_version y_on y_call ∧ es_RD d x_drafted x_draftType x_draftValue y_drafted y_draftType y_draftValue ∧ es_RP L x_programLength x_ops x_arguments y_length y_op y_with ∧ es_RS c f L x_states x_noted y_position y_cells y_noted ∧ es_RG c f x_groupType x_cursor x_keptCursor x_parked x_rowCount x_rowPosition x_rowTimes x_rowDue x_time y_formed y_wanted y_cursor y_parked y_many y_where y_often y_due y_time ∧ es_RF c x_foundAt y_found y_isCut y_stream y_type y_from y_value y_version y_on
def es_R (q : Nat) (u : SX) (v : SY) : Prop := ∃ (c f d : Nat) (L : Nat → Nat), es_Q c f d L q u v
/-- the relation at the head of a turn whose first cell is k -/
def i_Rel (k : Nat) (u : SX) (v : SY) : Prop := ∃ q, q ≤ 500 * k ∧ es_R q u v
theorem i_up {k : Nat} {u : SX} {v : SY} (h : i_Rel k u v) : i_Rel (k + 4) u v := by
  obtain ⟨q, hq, h⟩ := h
  exact ⟨q, by omega, h⟩
variable {x_records x_removedCount x_flushed x_drafted x_height x_time x_foundAt : Int32} {x_recordStream x_recordType x_recordVersion x_recordValue x_originProjection x_originPosition x_originInstruction x_joined x_removed x_eventCount x_cutLevel x_draftType x_draftValue x_ops x_arguments x_programLength x_states x_noted x_stack x_metHeight x_groupType x_cursor x_keptCursor x_parked x_rowCount x_rowPosition x_rowTimes x_rowDue : Nat → Int32} {y_count y_flushed y_calls y_drafted y_top y_time : Int32} {y_isCut y_removed y_stream y_type y_from y_by y_value y_version y_on y_call y_draftType y_draftValue y_op y_with y_length y_height y_torn y_stack y_position y_cells y_noted y_wanted y_formed y_cursor y_parked y_where y_often y_due y_many y_found : Nat → Int32} {c f q : Nat} {cut rm str ty fr byi val ver onn call oi jn ec cl : Nat → Int32} {d : Nat} {L : Nat → Nat}
theorem es_RG_m {c' f' : Nat} (H : es_RG c f x_groupType x_cursor x_keptCursor x_parked x_rowCount x_rowPosition x_rowTimes x_rowDue x_time y_formed y_wanted y_cursor y_parked y_many y_where y_often y_due y_time) (hc : c ≤ c') (hf : f ≤ f') : es_RG c' f' x_groupType x_cursor x_keptCursor x_parked x_rowCount x_rowPosition x_rowTimes x_rowDue x_time y_formed y_wanted y_cursor y_parked y_many y_where y_often y_due y_time := by
  obtain ⟨h1, h2, h3⟩ := H
  refine ⟨h1, h2, fun g hg => ?_⟩
  obtain ⟨a, nt, nw, nk, u, k, b, e⟩ := h3 g hg
  have e0 := e.1
  exact ⟨a, nt, nw, nk, u, k, b, es_Grp_m e (by omega) (by omega)⟩
theorem es_RF_add {b s t fo v w o : Int32} (H : es_RF c x_foundAt y_found y_isCut y_stream y_type y_from y_value y_version y_on) : es_RF (c + 1) x_foundAt y_found (upd y_isCut c b) (upd y_stream c s) (upd y_type c t) (upd y_from c fo) (upd y_value c v) (upd y_version c w) (upd y_on c o) := by
  rcases H with H | ⟨a, h1, h2, h3⟩
  · exact Or.inl H
  · refine Or.inr ⟨a, by omega, h2, ?_⟩
    rw [pk_un (by omega), pk_un (by omega), pk_un (by omega), pk_un (by omega), pk_un (by omega), pk_un (by omega), pk_un (by omega)]
    exact h3
/-- one record more, on both sides -/
theorem es_Q_add {s t : Nat} {b v fo ov bv ev jv : Int32} {byi' ec' cl' : Nat → Int32}
    (H : es_Q c f d L q (nI c, x_removedCount, nI f, x_drafted, x_height, x_time, x_foundAt, str, es_T cut ty, es_V cut ver val, es_W cut val, fr, onn, oi, jn, rm, ec, cl, x_draftType, x_draftValue, x_ops, x_arguments, x_programLength, x_states, x_noted, x_stack, x_metHeight, x_groupType, x_cursor, x_keptCursor, x_parked, x_rowCount, x_rowPosition, x_rowTimes, x_rowDue) (nI c, nI f, nI q, y_drafted, y_top, y_time, cut, rm, str, ty, fr, byi, val, ver, onn, call, y_draftType, y_draftValue, y_op, y_with, y_length, y_height, y_torn, y_stack, y_position, y_cells, y_noted, y_wanted, y_formed, y_cursor, y_parked, y_where, y_often, y_due, y_many, y_found))
    (hc : c < 2000) (hr : c - es_rc rm c < 40) (hs : s < 5) (ht : t < 8)
    (hb : ∀ i, i < c → byi' i = byi i) (hbv : byi' c = bv)
    (ho : fo = -1 ∨ (b = 0 ∧ ev = bv ∧ ∃ o, o < c ∧ ov = nI o))
    (hj : 0 < c → (jv = 0 ↔ ¬ call (c - 1) = nI q))
    (hec : ∀ s', s' < 5 → ec' s' = if b = 0 ∧ s' = s then ec s' + 1 else ec s')
    (hcl : ∀ s', s' < 5 → cl' s' = if ¬ b = 0 ∧ s' = s ∧ cl s' < v then v else cl s') :
    es_Q (c + 1) f d L q
      (nI (c + 1), x_removedCount, nI f, x_drafted, x_height, x_time, x_foundAt, upd str c (nI s), upd (es_T cut ty) c (if b = 0 then nI t else -1), upd (es_V cut ver val) c (if b = 0 then nI (es_ev cut str (nI s) c) else v), upd (es_W cut val) c (if b = 0 then v else 0), upd fr c fo, upd onn c ov, upd oi c ev, upd jn c jv, rm, ec', cl', x_draftType, x_draftValue, x_ops, x_arguments, x_programLength, x_states, x_noted, x_stack, x_metHeight, x_groupType, x_cursor, x_keptCursor, x_parked, x_rowCount, x_rowPosition, x_rowTimes, x_rowDue)
      (nI (c + 1), nI f, nI q, y_drafted, y_top, y_time, upd cut c b, rm, upd str c (nI s), upd ty c (nI t), upd fr c fo, byi', upd val c v, upd ver c (nI (es_ev cut str (nI s) c)), upd onn c ov, upd call c (nI q), y_draftType, y_draftValue, y_op, y_with, y_length, y_height, y_torn, y_stack, y_position, y_cells, y_noted, y_wanted, y_formed, y_cursor, y_parked, y_where, y_often, y_due, y_many, y_found) := by
  obtain ⟨⟨_, _, _, _, _, hR, _, _, _, _, _, _, _, hL⟩, hD, hP, hS, hG, hF⟩ := H
  have h4 : rm c = 0 := (hL.2.2.2.2.1 c).2 hL.1.2.1
  refine ⟨⟨rfl, rfl, rfl, rfl, rfl, ?_, rfl, es_Tu.symm, es_Vu.symm, es_Wu.symm, rfl, rfl, rfl, es_Log_add hL hc hr hs ht (Nat.le_refl q) hb hbv ho hj hec hcl⟩, hD, hP, es_St_m hS (by omega), es_RG_m hG (by omega) (by omega), es_RF_add hF⟩
  rw [es_rc_add h4]
  exact hR
end
end
section
section
/-! what a scavenge takes -/
def es_go (cut str val ver : Nat → Int32) (f i : Nat) : Prop := ¬ cut i = 0 ∨ ver i < es_cm cut str val (str i) f
def es_Rm (rm r : Nat → Int32) (P : Nat → Prop) : Prop := ∀ j, (r j = 0 ∨ r j = 1) ∧ (r j = 0 ↔ rm j = 0 ∧ ¬ P j)
theorem es_Rm_0 {rm : Nat → Int32} {P : Nat → Prop} (h : ∀ j, rm j = 0 ∨ rm j = 1) (hP : ∀ j, ¬ P j) : es_Rm rm rm P :=
  fun j => ⟨h j, fun z => ⟨z, hP j⟩, fun z => z.1⟩
theorem es_Rm_u {rm r r' : Nat → Int32} {P P' : Nat → Prop} (h : es_Rm rm r P) (h' : es_Rm rm r' P') (hP : ∀ j, P j ↔ P' j) : r = r' := by
  funext j
  obtain ⟨a1, a2⟩ := h j
  obtain ⟨b1, b2⟩ := h' j
  rw [hP j] at a2
  have e : r j = 0 ↔ r' j = 0 := a2.trans b2.symm
  rcases a1 with z | z
  · rw [z]; exact (e.mp z).symm
  · rcases b1 with w | w
    · rw [w]; exact e.mpr w
    · rw [z, w]
theorem es_Rm_i {rm r : Nat → Int32} {P P' : Nat → Prop} (h : es_Rm rm r P) (hP : ∀ j, P j ↔ P' j) : es_Rm rm r P' := by
  intro j
  obtain ⟨a1, a2⟩ := h j
  rw [hP j] at a2
  exact ⟨a1, a2⟩
/-- j0 goes -/
theorem es_Rm_a {rm r : Nat → Int32} {P P' : Nat → Prop} {j0 : Nat} (h : es_Rm rm r P) (hP : ∀ j, P' j ↔ (P j ∨ j = j0)) : es_Rm rm (upd r j0 1) P' := by
  intro j
  rw [hP j]
  by_cases e : j = j0
  · subst e
    rw [pk_us]
    exact ⟨Or.inr rfl, fun z => absurd z (by decide), fun z => absurd (Or.inr rfl) z.2⟩
  · rw [pk_un e]
    obtain ⟨a1, a2⟩ := h j
    refine ⟨a1, a2.trans ⟨fun z => ⟨z.1, fun w => ?_⟩, fun z => ⟨z.1, fun w => z.2 (Or.inl w)⟩⟩⟩
    rcases w with w | w
    · exact z.2 w
    · exact e w
/-- j0 is gone already -/
theorem es_Rm_g {rm r : Nat → Int32} {P P' : Nat → Prop} {j0 : Nat} (h : es_Rm rm r P) (h0 : ¬ r j0 = 0) (hP : ∀ j, P' j ↔ (P j ∨ j = j0)) : es_Rm rm r P' := by
  intro j
  rw [hP j]
  obtain ⟨a1, a2⟩ := h j
  refine ⟨a1, fun z => ⟨(a2.mp z).1, fun w => ?_⟩, fun z => a2.mpr ⟨z.1, fun w => z.2 (Or.inl w)⟩⟩
  rcases w with w | w
  · exact (a2.mp z).2 w
  · rw [w] at z; exact h0 z
theorem es_Rm_rc {rm r : Nat → Int32} {P : Nat → Prop} (h : es_Rm rm r P) : ∀ n, es_rc rm n ≤ es_rc r n := by
  intro n
  induction n with
  | zero => exact Nat.le_refl _
  | succ n ih =>
    rw [es_rc_s, es_rc_s]
    by_cases z : r n = 0
    · rw [if_pos z, if_pos ((h n).2.mp z).1]; exact ih
    · rw [if_neg z]
      split <;> omega
end
end
section
section
/-! small methods of both -/
variable {x_records x_removedCount x_flushed x_drafted x_height x_time x_foundAt : Int32} {x_recordStream x_recordType x_recordVersion x_recordValue x_originProjection x_originPosition x_originInstruction x_joined x_removed x_eventCount x_cutLevel x_draftType x_draftValue x_ops x_arguments x_programLength x_states x_noted x_stack x_metHeight x_groupType x_cursor x_keptCursor x_parked x_rowCount x_rowPosition x_rowTimes x_rowDue : Nat → Int32} {y_count y_flushed y_calls y_drafted y_top y_time : Int32} {y_isCut y_removed y_stream y_type y_from y_by y_value y_version y_on y_call y_draftType y_draftValue y_op y_with y_length y_height y_torn y_stack y_position y_cells y_noted y_wanted y_formed y_cursor y_parked y_where y_often y_due y_many y_found : Nat → Int32} {c f q : Nat} {cut rm str ty fr byi val ver onn call oi jn ec cl : Nat → Int32} {post : Int32 → Prop}
theorem ey_outT {x lim : Int32} (n : Nat) (hl : lim = nI n) (h : x < 0 ∨ nI n ≤ x) (hp : post 1) : wpY_out post x lim := by
  subst hl
  by_cases z : x < 0
  · exact br_t z hp
  · rcases h with h | h
    · exact absurd h z
    · exact br_f z (br_f (fun w => es_ltirr (es_ltle w h)) hp)
theorem ey_outF {lim : Int32} (n j : Nat) (hl : lim = nI n) (hn : n < 2 ^ 31) (h : j < n) (hp : post 0) : wpY_out post (nI j) lim := by
  subst hl
  exact br_f (nI_pos (by omega)) (br_t (nI_lt h hn) hp)
theorem ex_isStream0 {x : Int32} (h : x < 0 ∨ nI 5 ≤ x) (hp : post 0) : wpX_isStream post (x_records, x_removedCount, x_flushed, x_drafted, x_height, x_time, x_foundAt, x_recordStream, x_recordType, x_recordVersion, x_recordValue, x_originProjection, x_originPosition, x_originInstruction, x_joined, x_removed, x_eventCount, x_cutLevel, x_draftType, x_draftValue, x_ops, x_arguments, x_programLength, x_states, x_noted, x_stack, x_metHeight, x_groupType, x_cursor, x_keptCursor, x_parked, x_rowCount, x_rowPosition, x_rowTimes, x_rowDue) x := by
  by_cases z : x < 0
  · exact br_t z hp
  · exact br_f z (br_t (h.resolve_left z) hp)
theorem ex_isStream1 {j : Nat} (h : j < 5) (hp : post 1) : wpX_isStream post (x_records, x_removedCount, x_flushed, x_drafted, x_height, x_time, x_foundAt, x_recordStream, x_recordType, x_recordVersion, x_recordValue, x_originProjection, x_originPosition, x_originInstruction, x_joined, x_removed, x_eventCount, x_cutLevel, x_draftType, x_draftValue, x_ops, x_arguments, x_programLength, x_states, x_noted, x_stack, x_metHeight, x_groupType, x_cursor, x_keptCursor, x_parked, x_rowCount, x_rowPosition, x_rowTimes, x_rowDue) (nI j) :=
  br_f (nI_pos (by omega)) (br_f (nI_ge h (by decide)) hp)
theorem ex_isProj0 {x : Int32} (h : x < 0 ∨ nI 3 ≤ x) (hp : post 0) : wpX_isProjection post (x_records, x_removedCount, x_flushed, x_drafted, x_height, x_time, x_foundAt, x_recordStream, x_recordType, x_recordVersion, x_recordValue, x_originProjection, x_originPosition, x_originInstruction, x_joined, x_removed, x_eventCount, x_cutLevel, x_draftType, x_draftValue, x_ops, x_arguments, x_programLength, x_states, x_noted, x_stack, x_metHeight, x_groupType, x_cursor, x_keptCursor, x_parked, x_rowCount, x_rowPosition, x_rowTimes, x_rowDue) x := by
  by_cases z : x < 0
  · exact br_t z hp
  · exact br_f z (br_t (h.resolve_left z) hp)
theorem ex_isProj1 {j : Nat} (h : j < 3) (hp : post 1) : wpX_isProjection post (x_records, x_removedCount, x_flushed, x_drafted, x_height, x_time, x_foundAt, x_recordStream, x_recordType, x_recordVersion, x_recordValue, x_originProjection, x_originPosition, x_originInstruction, x_joined, x_removed, x_eventCount, x_cutLevel, x_draftType, x_draftValue, x_ops, x_arguments, x_programLength, x_states, x_noted, x_stack, x_metHeight, x_groupType, x_cursor, x_keptCursor, x_parked, x_rowCount, x_rowPosition, x_rowTimes, x_rowDue) (nI j) :=
  br_f (nI_pos (by omega)) (br_f (nI_ge h (by decide)) hp)
theorem ex_stateBase {p m : Nat} (hp : post (nI (11 * (3 * m + p)))) : wpX_stateBase post (x_records, x_removedCount, x_flushed, x_drafted, x_height, x_time, x_foundAt, x_recordStream, x_recordType, x_recordVersion, x_recordValue, x_originProjection, x_originPosition, x_originInstruction, x_joined, x_removed, x_eventCount, x_cutLevel, x_draftType, x_draftValue, x_ops, x_arguments, x_programLength, x_states, x_noted, x_stack, x_metHeight, x_groupType, x_cursor, x_keptCursor, x_parked, x_rowCount, x_rowPosition, x_rowTimes, x_rowDue) (nI p) (nI m) := by
  show post (((nI m * nI 3) + nI p) * nI 11)
  rw [pk_mul, nI_add, pk_mul, show (m * 3 + p) * 11 = 11 * (3 * m + p) by omega]
  exact hp
theorem ex_hasRoom1 {n : Nat} (hc : c ≤ 2000) (h1 : c - es_rc rm c + n ≤ 40) (h2 : c + n ≤ 2000) (hp : post 1) : wpX_hasRoom post (nI c, nI (es_rc rm c), nI f, x_drafted, x_height, x_time, x_foundAt, str, es_T cut ty, es_V cut ver val, es_W cut val, fr, onn, oi, jn, rm, ec, cl, x_draftType, x_draftValue, x_ops, x_arguments, x_programLength, x_states, x_noted, x_stack, x_metHeight, x_groupType, x_cursor, x_keptCursor, x_parked, x_rowCount, x_rowPosition, x_rowTimes, x_rowDue) (nI n) := by
  have hr := es_rc_le rm c
  refine br_f ?_ (br_f ?_ hp)
  · rw [pk_sub hr, nI_add]; exact nI_nlt (a := 40) h1 (by decide)
  · rw [nI_add]; exact nI_nlt (a := 2000) h2 (by decide)
theorem ex_hasRoom0 {n : Nat} (hc : c ≤ 2000) (hn : n ≤ 4) (h : ¬ (c - es_rc rm c + n ≤ 40 ∧ c + n ≤ 2000)) (hp : post 0) : wpX_hasRoom post (nI c, nI (es_rc rm c), nI f, x_drafted, x_height, x_time, x_foundAt, str, es_T cut ty, es_V cut ver val, es_W cut val, fr, onn, oi, jn, rm, ec, cl, x_draftType, x_draftValue, x_ops, x_arguments, x_programLength, x_states, x_noted, x_stack, x_metHeight, x_groupType, x_cursor, x_keptCursor, x_parked, x_rowCount, x_rowPosition, x_rowTimes, x_rowDue) (nI n) := by
  have hr := es_rc_le rm c
  by_cases z : c - es_rc rm c + n ≤ 40
  · refine br_f ?_ (br_t ?_ hp)
    · rw [pk_sub hr, nI_add]; exact nI_nlt (a := 40) z (by decide)
    · rw [nI_add]; exact nI_lt (a := 2000) (by omega) (by omega)
  · refine br_t ?_ hp
    rw [pk_sub hr, nI_add]; exact nI_lt (a := 40) (by omega) (by omega)
theorem ey_there (hc : c ≤ 2000) (hp : post (nI (c - es_rc rm c))) : wpY_there post (nI c, nI f, nI q, y_drafted, y_top, y_time, cut, rm, str, ty, fr, byi, val, ver, onn, call, y_draftType, y_draftValue, y_op, y_with, y_length, y_height, y_torn, y_stack, y_position, y_cells, y_noted, y_wanted, y_formed, y_cursor, y_parked, y_where, y_often, y_due, y_many, y_found) := by
  refine loop_0 (fun n i s => wY_there_4 post (nI c) (nI f) (nI q) y_drafted y_top y_time cut rm str ty fr byi val ver onn call y_draftType y_draftValue y_op y_with y_length y_height y_torn y_stack y_position y_cells y_noted y_wanted y_formed y_cursor y_parked y_where y_often y_due y_many y_found n s (nI i)) (fun i s => s = nI (i - es_rc rm i)) c _ rfl ?_ ?_
  · intro n s hs
    subst hs
    exact br_t (nI_le (Nat.le_refl c) (by omega)) hp
  · intro n i s hi hs ih
    subst hs
    have hr := es_rc_le rm i
    refine br_f (nI_ge hi (by omega)) ⟨vp_in_nI (by omega) (by decide), ?_⟩
    rw [nI_clamp (by omega)]
    refine br_c (fun z => ?_) (fun z => ?_)
    · refine nm_r (nI_1 _) (nm_r (nI_1 _) (ih _ ?_))
      rw [es_rc_s, if_pos z, show i + 1 - es_rc rm i = i - es_rc rm i + 1 by omega]
    · refine nm_r (nI_1 _) (ih _ ?_)
      rw [es_rc_s, if_neg z, show i + 1 - (es_rc rm i + 1) = i - es_rc rm i by omega]
theorem ey_events {e : Nat} {s : Int32} (he : e ≤ 2000) (hp : post (nI (es_ev cut str s e))) : wpY_events post (nI c, nI f, nI q, y_drafted, y_top, y_time, cut, rm, str, ty, fr, byi, val, ver, onn, call, y_draftType, y_draftValue, y_op, y_with, y_length, y_height, y_torn, y_stack, y_position, y_cells, y_noted, y_wanted, y_formed, y_cursor, y_parked, y_where, y_often, y_due, y_many, y_found) s (nI e) := by
  refine loop_0 (fun n i r => wY_events_5 post s (nI e) (nI c) (nI f) (nI q) y_drafted y_top y_time cut rm str ty fr byi val ver onn call y_draftType y_draftValue y_op y_with y_length y_height y_torn y_stack y_position y_cells y_noted y_wanted y_formed y_cursor y_parked y_where y_often y_due y_many y_found n r (nI i)) (fun i r => r = nI (es_ev cut str s i)) e _ rfl ?_ ?_
  · intro n r hr
    subst hr
    exact br_t (nI_le (Nat.le_refl e) (by omega)) hp
  · intro n i r hi hr ih
    subst hr
    refine br_f (nI_ge hi (by omega)) ⟨vp_in_nI (by omega) (by decide), ?_⟩
    rw [nI_clamp (by omega)]
    refine br_c (fun z => ⟨vp_in_nI (by omega) (by decide), br_c (fun w => ?_) (fun w => ?_)⟩) (fun z => ?_)
    · refine nm_r (nI_1 _) (nm_r (nI_1 _) (ih _ ?_))
      rw [es_ev_s, if_pos ⟨z, w⟩]
    · refine nm_r (nI_1 _) (ih _ ?_)
      rw [es_ev_s, if_neg (fun y => w y.2)]
    · refine nm_r (nI_1 _) (ih _ ?_)
      rw [es_ev_s, if_neg (fun y => z y.1)]
theorem ey_hidden {e i : Nat} (he : e ≤ 2000) (hi : i < 2000) (h1 : es_hid cut str val ver e i → post 1) (h0 : ¬ es_hid cut str val ver e i → post 0) : wpY_hidden post (nI c, nI f, nI q, y_drafted, y_top, y_time, cut, rm, str, ty, fr, byi, val, ver, onn, call, y_draftType, y_draftValue, y_op, y_with, y_length, y_height, y_torn, y_stack, y_position, y_cells, y_noted, y_wanted, y_formed, y_cursor, y_parked, y_where, y_often, y_due, y_many, y_found) (nI i) (nI e) := by
  refine loop_0 (fun n k (_ : Unit) => wY_hidden_2 post (nI i) (nI e) (nI c) (nI f) (nI q) y_drafted y_top y_time cut rm str ty fr byi val ver onn call y_draftType y_draftValue y_op y_with y_length y_height y_torn y_stack y_position y_cells y_noted y_wanted y_formed y_cursor y_parked y_where y_often y_due y_many y_found n (nI k)) (fun k _ => ∀ j, j < k → ¬ (¬ cut j = 0 ∧ str j = str i ∧ ver i < val j)) e () (fun j hj => by omega) ?_ ?_
  · intro n _ hs
    exact br_t (nI_le (Nat.le_refl e) (by omega)) (h0 (fun ⟨k, hk, z⟩ => hs k hk z))
  · intro n k _ hk hs ih
    have nx : ¬ (¬ cut k = 0 ∧ str k = str i ∧ ver i < val k) → ∀ j, j < k + 1 → ¬ (¬ cut j = 0 ∧ str j = str i ∧ ver i < val j) := fun z => lt_s hs z
    refine br_f (nI_ge hk (by omega)) ⟨vp_in_nI (by omega) (by decide), ?_⟩
    rw [nI_clamp (by omega), nI_clamp (by omega)]
    refine br_c (fun z => nm_r (nI_1 _) (ih () (nx (fun y => y.1 z)))) (fun z => ⟨vp_in_nI (by omega) (by decide), vp_in_nI (by omega) (by decide), br_c (fun w => ⟨vp_in_nI (by omega) (by decide), vp_in_nI (by omega) (by decide), br_c (fun y => nm_r (nI_1 _) (ih () (nx (fun t => es_ltirr (es_ltle t.2.2 y))))) (fun y => h1 ⟨k, hk, z, w, es_nle y⟩)⟩) (fun w => nm_r (nI_1 _) (ih () (nx (fun t => w t.2.1))))⟩)
theorem ey_shown (hc : c ≤ 2000) {i : Nat} (hi : i < 2000) (hv : 0 ≤ ver i) (h1 : es_S cut str val ver c i → post 1) (h0 : ¬ es_S cut str val ver c i → post 0) : wpY_shown post (nI c, nI f, nI q, y_drafted, y_top, y_time, cut, rm, str, ty, fr, byi, val, ver, onn, call, y_draftType, y_draftValue, y_op, y_with, y_length, y_height, y_torn, y_stack, y_position, y_cells, y_noted, y_wanted, y_formed, y_cursor, y_parked, y_where, y_often, y_due, y_many, y_found) (nI i) := by
  have key := es_S_iff (cut := cut) (str := str) (val := val) (c := c) hv
  refine ⟨vp_in_nI (by omega) (by decide), ?_⟩
  rw [nI_clamp (by omega)]
  refine br_c (fun z => ?_) (fun z => h0 (fun w => z w.1))
  refine ey_hidden hc hi (fun w => ?_) (fun w => ?_)
  · exact br_f (by decide) (h0 (fun y => (key.mp y).2 w))
  · exact br_t rfl (h1 (key.mpr ⟨z, w⟩))
theorem ex_isShown {i s : Nat} (hi : i < 2000) (hs : s < 5) (hst : str i = nI s) (ht : ¬ ty i = -1) (hcl : cl s = es_cm cut str val (nI s) c) (h1 : es_S cut str val ver c i → post 1) (h0 : ¬ es_S cut str val ver c i → post 0) : wpX_isShown post (nI c, x_removedCount, nI f, x_drafted, x_height, x_time, x_foundAt, str, es_T cut ty, es_V cut ver val, es_W cut val, fr, onn, oi, jn, rm, ec, cl, x_draftType, x_draftValue, x_ops, x_arguments, x_programLength, x_states, x_noted, x_stack, x_metHeight, x_groupType, x_cursor, x_keptCursor, x_parked, x_rowCount, x_rowPosition, x_rowTimes, x_rowDue) (nI i) := by
  refine ⟨vp_in_nI (by omega) (by decide), ?_⟩
  rw [nI_clamp (by omega), hst, nI_clamp (by omega)]
  refine br_c (fun z => h0 (fun w => (es_Tc ht).mp z w.1)) (fun z => ?_)
  have hz : cut i = 0 := Classical.byContradiction (fun w => z ((es_Tc ht).mpr w))
  refine ⟨vp_in_nI (by omega) (by decide), vp_in_nI (by omega) (by decide), vp_in_nI hs (by decide), ?_⟩
  rw [es_V0 hz, hcl]
  refine br_c (fun w => h0 (fun y => ?_)) (fun w => h1 ⟨hz, ?_⟩)
  · have := y.2
    rw [hst] at this
    exact es_ltirr (es_lelt this w)
  · rw [hst]; exact es_nlt w
/-- from the log's relation -/
theorem ex_isShownL (H : es_Log c f q cut rm str ty fr byi val ver onn call oi jn ec cl) {i : Nat} (hi : i < 2000) (h1 : es_S cut str val ver c i → post 1) (h0 : ¬ es_S cut str val ver c i → post 0) : wpX_isShown post (nI c, x_removedCount, nI f, x_drafted, x_height, x_time, x_foundAt, str, es_T cut ty, es_V cut ver val, es_W cut val, fr, onn, oi, jn, rm, ec, cl, x_draftType, x_draftValue, x_ops, x_arguments, x_programLength, x_states, x_noted, x_stack, x_metHeight, x_groupType, x_cursor, x_keptCursor, x_parked, x_rowCount, x_rowPosition, x_rowTimes, x_rowDue) (nI i) := by
  obtain ⟨s, hs, e⟩ := H.2.1 i
  obtain ⟨t, ht, e2⟩ := H.2.2.1 i
  exact ex_isShown hi hs e (by rw [e2]; exact es_nm1 (by omega)) (H.2.2.2.2.2.2.1 s hs) h1 h0
theorem ey_shownL (H : es_Log c f q cut rm str ty fr byi val ver onn call oi jn ec cl) {i : Nat} (hi : i < 2000) (h1 : es_S cut str val ver c i → post 1) (h0 : ¬ es_S cut str val ver c i → post 0) : wpY_shown post (nI c, nI f, nI q, y_drafted, y_top, y_time, cut, rm, str, ty, fr, byi, val, ver, onn, call, y_draftType, y_draftValue, y_op, y_with, y_length, y_height, y_torn, y_stack, y_position, y_cells, y_noted, y_wanted, y_formed, y_cursor, y_parked, y_where, y_often, y_due, y_many, y_found) (nI i) := by
  obtain ⟨n, hn, e⟩ := H.2.2.2.1 i
  exact ey_shown H.1.1 hi (by rw [e]; exact nI_pos' (by omega)) h1 h0
theorem ex_cutLevelBelow {e : Nat} {s : Int32} (he : e ≤ 2000) (ht : ∀ i, ¬ ty i = -1) (hp : post (es_cm cut str val s e)) : wpX_cutLevelBelow post (nI c, x_removedCount, nI f, x_drafted, x_height, x_time, x_foundAt, str, es_T cut ty, es_V cut ver val, es_W cut val, fr, onn, oi, jn, rm, ec, cl, x_draftType, x_draftValue, x_ops, x_arguments, x_programLength, x_states, x_noted, x_stack, x_metHeight, x_groupType, x_cursor, x_keptCursor, x_parked, x_rowCount, x_rowPosition, x_rowTimes, x_rowDue) s (nI e) := by
  refine loop_0 (fun n i r => wX_cutLevelBelow_5 post s (nI e) (nI c) x_removedCount (nI f) x_drafted x_height x_time x_foundAt str (es_T cut ty) (es_V cut ver val) (es_W cut val) fr onn oi jn rm ec cl x_draftType x_draftValue x_ops x_arguments x_programLength x_states x_noted x_stack x_metHeight x_groupType x_cursor x_keptCursor x_parked x_rowCount x_rowPosition x_rowTimes x_rowDue n r (nI i)) (fun i r => r = es_cm cut str val s i) e _ rfl ?_ ?_
  · intro n r hr
    subst hr
    exact br_t (nI_le (Nat.le_refl e) (by omega)) hp
  · intro n i r hi hr ih
    subst hr
    refine br_f (nI_ge hi (by omega)) ⟨vp_in_nI (by omega) (by decide), ?_⟩
    rw [nI_clamp (by omega)]
    refine br_c (fun z => ⟨vp_in_nI (by omega) (by decide), br_c (fun w => ⟨vp_in_nI (by omega) (by decide), br_c (fun y => ?_) (fun y => ⟨vp_in_nI (by omega) (by decide), ?_⟩)⟩) (fun w => ?_)⟩) (fun z => ?_)
    · rw [es_V1 ((es_Tc (ht i)).mp w)] at y
      refine nm_r (nI_1 _) (ih _ ?_)
      rw [es_cm_s, if_neg (fun t => es_ltirr (es_ltle t.2.2 y))]
    · have hcut := (es_Tc (ht i)).mp w
      rw [es_V1 hcut] at y ⊢
      refine nm_e (nm_r (nI_1 _) (ih _ ?_))
      rw [es_cm_s, if_pos ⟨hcut, z, es_nle y⟩]
    · refine nm_r (nI_1 _) (ih _ ?_)
      rw [es_cm_s, if_neg (fun t => w ((es_Tc (ht i)).mpr t.1))]
    · refine nm_r (nI_1 _) (ih _ ?_)
      rw [es_cm_s, if_neg (fun t => z t.2.1)]
end
end
section
section
/-! a record is added -/
variable {x_records x_removedCount x_flushed x_drafted x_height x_time x_foundAt : Int32} {x_recordStream x_recordType x_recordVersion x_recordValue x_originProjection x_originPosition x_originInstruction x_joined x_removed x_eventCount x_cutLevel x_draftType x_draftValue x_ops x_arguments x_programLength x_states x_noted x_stack x_metHeight x_groupType x_cursor x_keptCursor x_parked x_rowCount x_rowPosition x_rowTimes x_rowDue : Nat → Int32} {y_count y_flushed y_calls y_drafted y_top y_time : Int32} {y_isCut y_removed y_stream y_type y_from y_by y_value y_version y_on y_call y_draftType y_draftValue y_op y_with y_length y_height y_torn y_stack y_position y_cells y_noted y_wanted y_formed y_cursor y_parked y_where y_often y_due y_many y_found : Nat → Int32} {c f q : Nat} {cut rm str ty fr byi val ver onn call oi jn ec cl : Nat → Int32}
theorem ex_addE {s t : Nat} {vv v : Int32} {pst : SX → Prop} (hc : c < 2000) (hs : s < 5) (ht : t < 8)
    (hp : pst (nI (c + 1), x_removedCount, nI f, x_drafted, x_height, x_time, x_foundAt, upd str c (nI s), upd (es_T cut ty) c (nI t), upd (es_V cut ver val) c vv, upd (es_W cut val) c v, upd fr c (-1), upd onn c (-1), upd oi c (-1), upd jn c 0, rm, upd ec s (ec s + 1), cl, x_draftType, x_draftValue, x_ops, x_arguments, x_programLength, x_states, x_noted, x_stack, x_metHeight, x_groupType, x_cursor, x_keptCursor, x_parked, x_rowCount, x_rowPosition, x_rowTimes, x_rowDue)) :
    wpX_addRecord pst (nI c, x_removedCount, nI f, x_drafted, x_height, x_time, x_foundAt, str, es_T cut ty, es_V cut ver val, es_W cut val, fr, onn, oi, jn, rm, ec, cl, x_draftType, x_draftValue, x_ops, x_arguments, x_programLength, x_states, x_noted, x_stack, x_metHeight, x_groupType, x_cursor, x_keptCursor, x_parked, x_rowCount, x_rowPosition, x_rowTimes, x_rowDue) (nI s) (nI t) vv v := by
  have e1 : (nI c).toNatClampNeg = c := nI_clamp (by omega)
  have e2 : (nI s).toNatClampNeg = s := nI_clamp (by omega)
  have hin := vp_in_nI (n := c) (N := 2000) hc (by decide)
  have hi2 := vp_in_nI (n := s) (N := 5) hs (by decide)
  have h3 : ¬ nI t = -1 := es_nm1 (by omega)
  simp only [wpX_addRecord, e1, e2, hin, hi2, h3, es_nb0, nI_1, forall_eq, true_implies, false_implies, implies_true, not_true_eq_false, not_false_eq_true, and_true, true_and]
  exact hp
theorem ex_addC {s : Nat} {vv : Int32} {pst : SX → Prop} (hc : c < 2000) (hs : s < 5)
    (hp : ∀ cl', (∀ s', cl' s' = if s' = s ∧ cl s' < vv then vv else cl s') → pst (nI (c + 1), x_removedCount, nI f, x_drafted, x_height, x_time, x_foundAt, upd str c (nI s), upd (es_T cut ty) c (-1), upd (es_V cut ver val) c vv, upd (es_W cut val) c 0, upd fr c (-1), upd onn c (-1), upd oi c (-1), upd jn c 0, rm, ec, cl', x_draftType, x_draftValue, x_ops, x_arguments, x_programLength, x_states, x_noted, x_stack, x_metHeight, x_groupType, x_cursor, x_keptCursor, x_parked, x_rowCount, x_rowPosition, x_rowTimes, x_rowDue)) :
    wpX_addRecord pst (nI c, x_removedCount, nI f, x_drafted, x_height, x_time, x_foundAt, str, es_T cut ty, es_V cut ver val, es_W cut val, fr, onn, oi, jn, rm, ec, cl, x_draftType, x_draftValue, x_ops, x_arguments, x_programLength, x_states, x_noted, x_stack, x_metHeight, x_groupType, x_cursor, x_keptCursor, x_parked, x_rowCount, x_rowPosition, x_rowTimes, x_rowDue) (nI s) (-1) vv 0 := by
  have e1 : (nI c).toNatClampNeg = c := nI_clamp (by omega)
  have e2 : (nI s).toNatClampNeg = s := nI_clamp (by omega)
  have hin := vp_in_nI (n := c) (N := 2000) hc (by decide)
  have hi2 := vp_in_nI (n := s) (N := 5) hs (by decide)
  simp only [wpX_addRecord, e1, e2, hin, hi2, es_nb0, nI_1, forall_eq, true_implies, false_implies, implies_true, not_true_eq_false, not_false_eq_true, and_true, true_and]
  refine br_c (fun z => hp cl (fun s' => ?_)) (fun z => hp (upd cl s vv) (fun s' => ?_))
  · by_cases e : s' = s
    · subst e; rw [if_neg (fun w => es_ltirr (es_ltle w.2 z))]
    · rw [if_neg (fun w => e w.1)]
  · by_cases e : s' = s
    · subst e; rw [pk_us, if_pos ⟨rfl, es_nle z⟩]
    · rw [pk_un e, if_neg (fun w => e w.1)]
theorem ey_add {s t : Nat} {b v : Int32} {pst : Int32 → SY → Prop} (hc : c < 2000) (hs : s < 5) (ht : t < 8) (hb : vp_nar .boolean b = b) (hr : rm c = 0)
    (hp : pst (nI c) (nI (c + 1), nI f, nI q, y_drafted, y_top, y_time, upd cut c b, rm, upd str c (nI s), upd ty c (nI t), upd fr c (-1), byi, upd val c v, upd ver c (nI (es_ev cut str (nI s) c)), upd onn c (-1), upd call c (nI q), y_draftType, y_draftValue, y_op, y_with, y_length, y_height, y_torn, y_stack, y_position, y_cells, y_noted, y_wanted, y_formed, y_cursor, y_parked, y_where, y_often, y_due, y_many, y_found)) :
    wpY_add pst (nI c, nI f, nI q, y_drafted, y_top, y_time, cut, rm, str, ty, fr, byi, val, ver, onn, call, y_draftType, y_draftValue, y_op, y_with, y_length, y_height, y_torn, y_stack, y_position, y_cells, y_noted, y_wanted, y_formed, y_cursor, y_parked, y_where, y_often, y_due, y_many, y_found) b (nI s) (nI t) v := by
  have e1 : (nI c).toNatClampNeg = c := nI_clamp (by omega)
  have hin := vp_in_nI (n := c) (N := 2000) hc (by decide)
  have h1 := es_nar s (by omega)
  have h2 := es_nar t (by omega)
  simp only [wpY_add, e1, hin, hb, h1.1, h1.2, h2.1, h2.2, es_nb0, es_nbm, nI_1, es_upd0 hr, forall_eq, true_implies, false_implies, implies_true, not_true_eq_false, not_false_eq_true, and_true, true_and]
  refine ey_events (by omega) ?_
  rw [es_ev_c c (fun i hi => ⟨pk_un (by omega), pk_un (by omega)⟩)]
  exact hp
end
end
section
section
/-! the start, and the calls that are short -/
variable {x_records x_removedCount x_flushed x_drafted x_height x_time x_foundAt : Int32} {x_recordStream x_recordType x_recordVersion x_recordValue x_originProjection x_originPosition x_originInstruction x_joined x_removed x_eventCount x_cutLevel x_draftType x_draftValue x_ops x_arguments x_programLength x_states x_noted x_stack x_metHeight x_groupType x_cursor x_keptCursor x_parked x_rowCount x_rowPosition x_rowTimes x_rowDue : Nat → Int32} {y_count y_flushed y_calls y_drafted y_top y_time : Int32} {y_isCut y_removed y_stream y_type y_from y_by y_value y_version y_on y_call y_draftType y_draftValue y_op y_with y_length y_height y_torn y_stack y_position y_cells y_noted y_wanted y_formed y_cursor y_parked y_where y_often y_due y_many y_found : Nat → Int32} {c f q : Nat} {cut rm str ty fr byi val ver onn call oi jn ec cl : Nat → Int32} {d : Nat} {L : Nat → Nat}
theorem i_vc0 : wpX_init (fun u => wpY_init (fun v => i_Rel 0 u v)) := by
  refine ⟨3, ?_⟩
  refine br_f (by decide) ⟨vp_in_nI (n := 0) (by decide) (by decide), nm_e (nm_e ?_)⟩
  refine br_f (by decide) ⟨vp_in_nI (n := 1) (by decide) (by decide), nm_e (nm_e ?_)⟩
  refine br_t (by decide) ?_
  refine ⟨0, by omega, 0, 0, 0, fun _ => 0, ⟨rfl, rfl, rfl, rfl, rfl, rfl, rfl, ?_, ?_, ?_, rfl, rfl, rfl, es_Log_0⟩, ⟨rfl, rfl, by omega, rfl, rfl, fun _ => ⟨0, by omega, rfl⟩⟩, ⟨rfl, fun _ => ⟨rfl, Nat.zero_le 14⟩, fun p i _ h => absurd h (Nat.not_lt_zero _), fun i h => absurd h (Nat.not_lt_zero _), fun p _ => ⟨fun _ => 0, rfl, fun i h hi => absurd hi (Nat.not_lt_zero _)⟩⟩, fun p _ h => absurd h (Nat.lt_irrefl 0), ⟨rfl, rfl, fun g hg => ⟨Or.inl ⟨rfl, ?_⟩, 0, 0, 0, 0, 0, fun _ => rfl, ⟨by omega, by omega, by omega, by omega⟩, ⟨rfl, rfl, rfl, rfl⟩, ⟨rfl, rfl, rfl, rfl, rfl, rfl⟩, fun i h => by omega, fun i h => by omega, fun i h => by omega, fun i h => by omega, fun i j h => by omega, fun i j h => by omega, fun i j h => by omega, fun i j h h' => by omega⟩⟩, Or.inl ⟨rfl, fun _ _ => rfl⟩⟩
  · funext i; rfl
  · funext i; rfl
  · funext i; rfl
  · have h : g = 0 ∨ g = 1 := by omega
    rcases h with h | h
    · subst h; rfl
    · subst h; rfl
theorem i_vc_event {k : Nat} {u : SX} {v : SY} (I : i_Rel k u v) (hk : k + 4 ≤ 2048) (v1 : Int32) (v2 : Int32) : wpX_event (fun r u' => wpY_event (fun r' v' => r' = r ∧ i_Rel (k + 4) u' v') v v1 v2) u v1 v2 := by
  obtain ⟨x_records, x_removedCount, x_flushed, x_drafted, x_height, x_time, x_foundAt, x_recordStream, x_recordType, x_recordVersion, x_recordValue, x_originProjection, x_originPosition, x_originInstruction, x_joined, x_removed, x_eventCount, x_cutLevel, x_draftType, x_draftValue, x_ops, x_arguments, x_programLength, x_states, x_noted, x_stack, x_metHeight, x_groupType, x_cursor, x_keptCursor, x_parked, x_rowCount, x_rowPosition, x_rowTimes, x_rowDue⟩ := u
  obtain ⟨y_count, y_flushed, y_calls, y_drafted, y_top, y_time, y_isCut, y_removed, y_stream, y_type, y_from, y_by, y_value, y_version, y_on, y_call, y_draftType, y_draftValue, y_op, y_with, y_length, y_height, y_torn, y_stack, y_position, y_cells, y_noted, y_wanted, y_formed, y_cursor, y_parked, y_where, y_often, y_due, y_many, y_found⟩ := v
  have J := i_up I
  obtain ⟨q, hq, c, f, d, L, hL, hD, hP, hS, hG, hF⟩ := I
  obtain ⟨rfl, rfl, hd, rfl, rfl, hdt⟩ := hD
  rcases es_rg v1 8 (by decide) with h | ⟨t, ht, rfl⟩
  · by_cases z : v1 < 0
    · refine br_t z ?_
      dsimp only [wpY_event]
      exact ey_outT 8 rfl h (br_f (by decide) ⟨rfl, J⟩)
    · refine br_f z (br_t (h.resolve_left z) ?_)
      dsimp only [wpY_event]
      exact ey_outT 8 rfl h (br_f (by decide) ⟨rfl, J⟩)
  · have hn := es_nar t (by omega)
    by_cases d4 : d < 4
    · refine br_f (nI_pos (by omega)) (br_f (nI_ge (b := 8) ht (by decide)) (br_t (nI_lt (b := 4) d4 (by decide)) ⟨pk_in d 4 d4, nm_e ⟨pk_in d 4 d4, nm_e (nm_r (nI_1 d) ?_)⟩⟩))
      dsimp only [wpY_event]
      refine ey_outF 8 t rfl (by decide) ht (br_t rfl (br_f ?_ ⟨pk_in d 4 d4, nm_e (nm_r (nI_1 d) ⟨pk_in d 4 d4, nm_e ⟨rfl, ?_⟩⟩)⟩))
      · exact fun z => by have := es_inj (b := 4) z (by omega) (by decide); omega
      · rw [hn.2, hn.1, nI_clamp (by omega)]
        refine ⟨q, by omega, c, f, d + 1, L, hL, ⟨rfl, rfl, by omega, rfl, rfl, fun i => ?_⟩, hP, hS, hG, hF⟩
        by_cases e : i = d
        · rw [e, pk_us]; exact ⟨t, ht, rfl⟩
        · rw [pk_un e]; exact hdt i
    · have e4 : d = 4 := by omega
      subst e4
      refine br_f (nI_pos (by omega)) (br_f (nI_ge (b := 8) ht (by decide)) (br_f (by decide) ?_))
      dsimp only [wpY_event]
      exact ey_outF 8 t rfl (by decide) ht (br_t rfl (br_t rfl ⟨rfl, J⟩))
theorem i_vc_version {k : Nat} {u : SX} {v : SY} (I : i_Rel k u v) (hk : k + 4 ≤ 2048) (v1 : Int32) : wpX_version (fun r => wpY_version (fun r' => r' = r ∧ i_Rel (k + 4) u v) v v1) u v1 := by
  obtain ⟨x_records, x_removedCount, x_flushed, x_drafted, x_height, x_time, x_foundAt, x_recordStream, x_recordType, x_recordVersion, x_recordValue, x_originProjection, x_originPosition, x_originInstruction, x_joined, x_removed, x_eventCount, x_cutLevel, x_draftType, x_draftValue, x_ops, x_arguments, x_programLength, x_states, x_noted, x_stack, x_metHeight, x_groupType, x_cursor, x_keptCursor, x_parked, x_rowCount, x_rowPosition, x_rowTimes, x_rowDue⟩ := u
  obtain ⟨y_count, y_flushed, y_calls, y_drafted, y_top, y_time, y_isCut, y_removed, y_stream, y_type, y_from, y_by, y_value, y_version, y_on, y_call, y_draftType, y_draftValue, y_op, y_with, y_length, y_height, y_torn, y_stack, y_position, y_cells, y_noted, y_wanted, y_formed, y_cursor, y_parked, y_where, y_often, y_due, y_many, y_found⟩ := v
  have J := i_up I
  obtain ⟨q, hq, c, f, d, L, hL, hD, hP, hS, hG, hF⟩ := I
  obtain ⟨rfl, rfl, rfl, rfl, rfl, rfl, rfl, rfl, rfl, rfl, rfl, rfl, rfl, hl⟩ := hL
  dsimp only [wpX_version, wpY_version]
  rcases es_rg v1 5 (by decide) with h | ⟨s, hs, rfl⟩
  · exact ex_isStream0 h (br_t rfl (ey_outT 5 rfl h (br_f (by decide) ⟨rfl, J⟩)))
  · refine ex_isStream1 hs (br_f (by decide) ⟨pk_in s 5 hs, ?_⟩)
    refine ey_outF 5 s rfl (by decide) hs (br_t rfl (ey_events hl.1.1 ⟨?_, J⟩))
    rw [nI_clamp (by omega), hl.2.2.2.2.2.1 s hs]
end
end
section
section
/-! read, next, found, total -/
variable {x_records x_removedCount x_flushed x_drafted x_height x_time x_foundAt : Int32} {x_recordStream x_recordType x_recordVersion x_recordValue x_originProjection x_originPosition x_originInstruction x_joined x_removed x_eventCount x_cutLevel x_draftType x_draftValue x_ops x_arguments x_programLength x_states x_noted x_stack x_metHeight x_groupType x_cursor x_keptCursor x_parked x_rowCount x_rowPosition x_rowTimes x_rowDue : Nat → Int32} {y_count y_flushed y_calls y_drafted y_top y_time : Int32} {y_isCut y_removed y_stream y_type y_from y_by y_value y_version y_on y_call y_draftType y_draftValue y_op y_with y_length y_height y_torn y_stack y_position y_cells y_noted y_wanted y_formed y_cursor y_parked y_where y_often y_due y_many y_found : Nat → Int32} {c f q : Nat} {cut rm str ty fr byi val ver onn call oi jn ec cl : Nat → Int32} {d : Nat} {L : Nat → Nat}
theorem ey_show {post : Int32 → SY → Prop} {a : Nat} (ha : a < 2000)
    (hp : ∀ fd, fd 0 = str a → fd 1 = ver a → fd 2 = ty a → fd 3 = val a → fd 4 = fr a → fd 5 = onn a → post (nI a) (nI c, nI f, nI q, y_drafted, y_top, y_time, cut, rm, str, ty, fr, byi, val, ver, onn, call, y_draftType, y_draftValue, y_op, y_with, y_length, y_height, y_torn, y_stack, y_position, y_cells, y_noted, y_wanted, y_formed, y_cursor, y_parked, y_where, y_often, y_due, y_many, fd)) : wpY_show post (nI c, nI f, nI q, y_drafted, y_top, y_time, cut, rm, str, ty, fr, byi, val, ver, onn, call, y_draftType, y_draftValue, y_op, y_with, y_length, y_height, y_torn, y_stack, y_position, y_cells, y_noted, y_wanted, y_formed, y_cursor, y_parked, y_where, y_often, y_due, y_many, y_found) (nI a) := by
  have e1 : (nI a).toNatClampNeg = a := nI_clamp (by omega)
  have hin := vp_in_nI (n := a) (N := 2000) ha (by decide)
  simp only [wpY_show, e1, hin, forall_eq, true_implies, false_implies, implies_true, not_true_eq_false, not_false_eq_true, and_true, true_and]
  exact hp _ rfl rfl rfl rfl rfl rfl
theorem ex_next (H : es_Log c f q cut rm str ty fr byi val ver onn call oi jn ec cl) {post : Int32 → SX → Prop} {i0 : Nat} (h0 : i0 < 2 ^ 31)
    (hF : ∀ a, i0 ≤ a → a < c → es_S cut str val ver c a → (∀ j, i0 ≤ j → j < a → ¬ es_S cut str val ver c j) → post (nI a) (nI c, x_removedCount, nI f, x_drafted, x_height, x_time, nI a, str, es_T cut ty, es_V cut ver val, es_W cut val, fr, onn, oi, jn, rm, ec, cl, x_draftType, x_draftValue, x_ops, x_arguments, x_programLength, x_states, x_noted, x_stack, x_metHeight, x_groupType, x_cursor, x_keptCursor, x_parked, x_rowCount, x_rowPosition, x_rowTimes, x_rowDue))
    (hN : (∀ j, i0 ≤ j → j < c → ¬ es_S cut str val ver c j) → post (-4) (nI c, x_removedCount, nI f, x_drafted, x_height, x_time, x_foundAt, str, es_T cut ty, es_V cut ver val, es_W cut val, fr, onn, oi, jn, rm, ec, cl, x_draftType, x_draftValue, x_ops, x_arguments, x_programLength, x_states, x_noted, x_stack, x_metHeight, x_groupType, x_cursor, x_keptCursor, x_parked, x_rowCount, x_rowPosition, x_rowTimes, x_rowDue)) : ∃ n, wX_next_10 post (nI c) x_removedCount (nI f) x_drafted x_height x_time x_foundAt str (es_T cut ty) (es_V cut ver val) (es_W cut val) fr onn oi jn rm ec cl x_draftType x_draftValue x_ops x_arguments x_programLength x_states x_noted x_stack x_metHeight x_groupType x_cursor x_keptCursor x_parked x_rowCount x_rowPosition x_rowTimes x_rowDue n (nI i0) := by
  have hc := H.1.1
  by_cases h : c ≤ i0
  · exact ⟨1, br_t (nI_le h h0) (hN (fun j h1 h2 => by omega))⟩
  · refine pk_loop (fun n i (_ : Unit) => wX_next_10 post (nI c) x_removedCount (nI f) x_drafted x_height x_time x_foundAt str (es_T cut ty) (es_V cut ver val) (es_W cut val) fr onn oi jn rm ec cl x_draftType x_draftValue x_ops x_arguments x_programLength x_states x_noted x_stack x_metHeight x_groupType x_cursor x_keptCursor x_parked x_rowCount x_rowPosition x_rowTimes x_rowDue n (nI i)) (fun i _ => i0 ≤ i ∧ ∀ j, i0 ≤ j → j < i → ¬ es_S cut str val ver c j) c i0 () (by omega) ⟨by omega, fun j h1 h2 => by omega⟩ ?_ ?_
    · intro n _ hs
      exact br_t (nI_le (Nat.le_refl c) (by omega)) (hN hs.2)
    · intro n i _ hi hs ih
      refine br_f (nI_ge hi (by omega)) (ex_isShownL H (by omega) (fun z => br_f (by decide) (hF i hs.1 hi z hs.2)) (fun z => br_t rfl (nm_r (nI_1 _) (ih () ⟨by omega, fun j h1 h2 => ?_⟩))))
      by_cases e : j = i
      · rw [e]; exact z
      · exact hs.2 j h1 (by omega)
theorem ey_next (H : es_Log c f q cut rm str ty fr byi val ver onn call oi jn ec cl) {post : Int32 → SY → Prop} {i0 : Nat} (h0 : i0 < 2 ^ 31)
    (hF : ∀ a, i0 ≤ a → a < c → es_S cut str val ver c a → (∀ j, i0 ≤ j → j < a → ¬ es_S cut str val ver c j) → ∀ fd, fd 0 = str a → fd 1 = ver a → fd 2 = ty a → fd 3 = val a → fd 4 = fr a → fd 5 = onn a → post (nI a) (nI c, nI f, nI q, y_drafted, y_top, y_time, cut, rm, str, ty, fr, byi, val, ver, onn, call, y_draftType, y_draftValue, y_op, y_with, y_length, y_height, y_torn, y_stack, y_position, y_cells, y_noted, y_wanted, y_formed, y_cursor, y_parked, y_where, y_often, y_due, y_many, fd))
    (hN : (∀ j, i0 ≤ j → j < c → ¬ es_S cut str val ver c j) → post (-4) (nI c, nI f, nI q, y_drafted, y_top, y_time, cut, rm, str, ty, fr, byi, val, ver, onn, call, y_draftType, y_draftValue, y_op, y_with, y_length, y_height, y_torn, y_stack, y_position, y_cells, y_noted, y_wanted, y_formed, y_cursor, y_parked, y_where, y_often, y_due, y_many, y_found)) : ∃ n, wY_next_10 post (nI c) (nI f) (nI q) y_drafted y_top y_time cut rm str ty fr byi val ver onn call y_draftType y_draftValue y_op y_with y_length y_height y_torn y_stack y_position y_cells y_noted y_wanted y_formed y_cursor y_parked y_where y_often y_due y_many y_found n (nI i0) := by
  have hc := H.1.1
  by_cases h : c ≤ i0
  · exact ⟨1, br_t (nI_le h h0) (hN (fun j h1 h2 => by omega))⟩
  · refine pk_loop (fun n i (_ : Unit) => wY_next_10 post (nI c) (nI f) (nI q) y_drafted y_top y_time cut rm str ty fr byi val ver onn call y_draftType y_draftValue y_op y_with y_length y_height y_torn y_stack y_position y_cells y_noted y_wanted y_formed y_cursor y_parked y_where y_often y_due y_many y_found n (nI i)) (fun i _ => i0 ≤ i ∧ ∀ j, i0 ≤ j → j < i → ¬ es_S cut str val ver c j) c i0 () (by omega) ⟨by omega, fun j h1 h2 => by omega⟩ ?_ ?_
    · intro n _ hs
      exact br_t (nI_le (Nat.le_refl c) (by omega)) (hN hs.2)
    · intro n i _ hi hs ih
      refine br_f (nI_ge hi (by omega)) (ey_shownL H (by omega) (fun z => br_f (by decide) (ey_show (by omega) (hF i hs.1 hi z hs.2))) (fun z => br_t rfl (nm_r (nI_1 _) (ih () ⟨by omega, fun j h1 h2 => ?_⟩))))
      by_cases e : j = i
      · rw [e]; exact z
      · exact hs.2 j h1 (by omega)
theorem em_next (H : es_Log c f q cut rm str ty fr byi val ver onn call oi jn ec cl) {P : SX → SY → Prop} {WY : (Int32 → SY → Prop) → Prop} {i0 : Nat} (h0 : i0 < 2 ^ 31)
    (hW : ∀ post : Int32 → SY → Prop, (∃ n, wY_next_10 post (nI c) (nI f) (nI q) y_drafted y_top y_time cut rm str ty fr byi val ver onn call y_draftType y_draftValue y_op y_with y_length y_height y_torn y_stack y_position y_cells y_noted y_wanted y_formed y_cursor y_parked y_where y_often y_due y_many y_found n (nI i0)) → WY post)
    (hF : ∀ a fd, a < c → cut a = 0 → fd 0 = str a → fd 1 = ver a → fd 2 = ty a → fd 3 = val a → fd 4 = fr a → fd 5 = onn a → P (nI c, x_removedCount, nI f, x_drafted, x_height, x_time, nI a, str, es_T cut ty, es_V cut ver val, es_W cut val, fr, onn, oi, jn, rm, ec, cl, x_draftType, x_draftValue, x_ops, x_arguments, x_programLength, x_states, x_noted, x_stack, x_metHeight, x_groupType, x_cursor, x_keptCursor, x_parked, x_rowCount, x_rowPosition, x_rowTimes, x_rowDue) (nI c, nI f, nI q, y_drafted, y_top, y_time, cut, rm, str, ty, fr, byi, val, ver, onn, call, y_draftType, y_draftValue, y_op, y_with, y_length, y_height, y_torn, y_stack, y_position, y_cells, y_noted, y_wanted, y_formed, y_cursor, y_parked, y_where, y_often, y_due, y_many, fd))
    (hN : P (nI c, x_removedCount, nI f, x_drafted, x_height, x_time, x_foundAt, str, es_T cut ty, es_V cut ver val, es_W cut val, fr, onn, oi, jn, rm, ec, cl, x_draftType, x_draftValue, x_ops, x_arguments, x_programLength, x_states, x_noted, x_stack, x_metHeight, x_groupType, x_cursor, x_keptCursor, x_parked, x_rowCount, x_rowPosition, x_rowTimes, x_rowDue) (nI c, nI f, nI q, y_drafted, y_top, y_time, cut, rm, str, ty, fr, byi, val, ver, onn, call, y_draftType, y_draftValue, y_op, y_with, y_length, y_height, y_torn, y_stack, y_position, y_cells, y_noted, y_wanted, y_formed, y_cursor, y_parked, y_where, y_often, y_due, y_many, y_found)) : ∃ n, wX_next_10 (fun r u' => WY (fun r' v' => r' = r ∧ P u' v')) (nI c) x_removedCount (nI f) x_drafted x_height x_time x_foundAt str (es_T cut ty) (es_V cut ver val) (es_W cut val) fr onn oi jn rm ec cl x_draftType x_draftValue x_ops x_arguments x_programLength x_states x_noted x_stack x_metHeight x_groupType x_cursor x_keptCursor x_parked x_rowCount x_rowPosition x_rowTimes x_rowDue n (nI i0) := by
  refine ex_next H h0 (fun a g1 g2 g3 g4 => hW _ ?_) (fun g => hW _ ?_)
  · refine ey_next H h0 (fun b e1 e2 e3 e4 fd z0 z1 z2 z3 z4 z5 => ?_) (fun e => absurd g3 (e a g1 g2))
    have := es_fstu g3 g1 g4 e3 e1 e4
    subst this
    exact ⟨rfl, hF a fd g2 g3.1 z0 z1 z2 z3 z4 z5⟩
  · exact ey_next H h0 (fun b e1 e2 e3 e4 fd _ _ _ _ _ _ => absurd e3 (g b e1 e2)) (fun _ => ⟨rfl, hN⟩)
theorem i_vc_next {k : Nat} {u : SX} {v : SY} (I : i_Rel k u v) (hk : k + 4 ≤ 2048) (v1 : Int32) : wpX_next (fun r u' => wpY_next (fun r' v' => r' = r ∧ i_Rel (k + 4) u' v') v v1) u v1 := by
  obtain ⟨x_records, x_removedCount, x_flushed, x_drafted, x_height, x_time, x_foundAt, x_recordStream, x_recordType, x_recordVersion, x_recordValue, x_originProjection, x_originPosition, x_originInstruction, x_joined, x_removed, x_eventCount, x_cutLevel, x_draftType, x_draftValue, x_ops, x_arguments, x_programLength, x_states, x_noted, x_stack, x_metHeight, x_groupType, x_cursor, x_keptCursor, x_parked, x_rowCount, x_rowPosition, x_rowTimes, x_rowDue⟩ := u
  obtain ⟨y_count, y_flushed, y_calls, y_drafted, y_top, y_time, y_isCut, y_removed, y_stream, y_type, y_from, y_by, y_value, y_version, y_on, y_call, y_draftType, y_draftValue, y_op, y_with, y_length, y_height, y_torn, y_stack, y_position, y_cells, y_noted, y_wanted, y_formed, y_cursor, y_parked, y_where, y_often, y_due, y_many, y_found⟩ := v
  have J := i_up I
  obtain ⟨q, hq, c, f, d, L, hL, hD, hP, hS, hG, hF⟩ := I
  obtain ⟨rfl, rfl, rfl, rfl, rfl, rfl, rfl, rfl, rfl, rfl, rfl, rfl, rfl, hl⟩ := hL
  have key : ∀ a fd, a < c → y_isCut a = 0 → fd 0 = y_stream a → fd 1 = y_version a → fd 2 = y_type a → fd 3 = y_value a → fd 4 = y_from a → fd 5 = y_on a → es_RF c (nI a) (fd) y_isCut y_stream y_type y_from y_value y_version y_on := fun a fd h1 h2 h3 h4 h5 h6 h7 h8 => Or.inr ⟨a, h1, rfl, h2, h3, h4, h5, h6, h7, h8⟩
  by_cases z : 0 ≤ v1
  · obtain ⟨j, hj, rfl⟩ := nI_of (x := v1) (fun w => es_ltirr (es_lelt z w))
    refine br_t z (em_next hl (P := fun u' v' => i_Rel (k + 4) u' v') (WY := fun P => wpY_next P (nI c, nI f, nI q, y_drafted, y_top, y_time, y_isCut, y_removed, y_stream, y_type, y_from, y_by, y_value, y_version, y_on, y_call, y_draftType, y_draftValue, y_op, y_with, y_length, y_height, y_torn, y_stack, y_position, y_cells, y_noted, y_wanted, y_formed, y_cursor, y_parked, y_where, y_often, y_due, y_many, y_found) (nI j)) hj (fun post h => br_t z h) (fun a fd h1 h2 h3 h4 h5 h6 h7 h8 => ⟨q, by omega, c, f, d, L, ⟨rfl, rfl, rfl, rfl, rfl, rfl, rfl, rfl, rfl, rfl, rfl, rfl, rfl, hl⟩, hD, hP, hS, hG, key a fd h1 h2 h3 h4 h5 h6 h7 h8⟩) J)
  · refine br_f z (em_next hl (P := fun u' v' => i_Rel (k + 4) u' v') (WY := fun P => wpY_next P (nI c, nI f, nI q, y_drafted, y_top, y_time, y_isCut, y_removed, y_stream, y_type, y_from, y_by, y_value, y_version, y_on, y_call, y_draftType, y_draftValue, y_op, y_with, y_length, y_height, y_torn, y_stack, y_position, y_cells, y_noted, y_wanted, y_formed, y_cursor, y_parked, y_where, y_often, y_due, y_many, y_found) v1) (i0 := 0) (by decide) (fun post h => br_f z h) (fun a fd h1 h2 h3 h4 h5 h6 h7 h8 => ⟨q, by omega, c, f, d, L, ⟨rfl, rfl, rfl, rfl, rfl, rfl, rfl, rfl, rfl, rfl, rfl, rfl, rfl, hl⟩, hD, hP, hS, hG, key a fd h1 h2 h3 h4 h5 h6 h7 h8⟩) J)
/-! read -/
theorem ex_read (H : es_Log c f q cut rm str ty fr byi val ver onn call oi jn ec cl) {post : Int32 → SX → Prop} {s v : Int32}
    (hF : ∀ a, a < c → (es_S cut str val ver c a ∧ str a = s ∧ ver a = v) → (∀ j, 0 ≤ j → j < a → ¬ (es_S cut str val ver c j ∧ str j = s ∧ ver j = v)) → post (nI a) (nI c, x_removedCount, nI f, x_drafted, x_height, x_time, nI a, str, es_T cut ty, es_V cut ver val, es_W cut val, fr, onn, oi, jn, rm, ec, cl, x_draftType, x_draftValue, x_ops, x_arguments, x_programLength, x_states, x_noted, x_stack, x_metHeight, x_groupType, x_cursor, x_keptCursor, x_parked, x_rowCount, x_rowPosition, x_rowTimes, x_rowDue))
    (hN : (∀ j, j < c → ¬ (es_S cut str val ver c j ∧ str j = s ∧ ver j = v)) → post (-4) (nI c, x_removedCount, nI f, x_drafted, x_height, x_time, x_foundAt, str, es_T cut ty, es_V cut ver val, es_W cut val, fr, onn, oi, jn, rm, ec, cl, x_draftType, x_draftValue, x_ops, x_arguments, x_programLength, x_states, x_noted, x_stack, x_metHeight, x_groupType, x_cursor, x_keptCursor, x_parked, x_rowCount, x_rowPosition, x_rowTimes, x_rowDue)) : wpX_read post (nI c, x_removedCount, nI f, x_drafted, x_height, x_time, x_foundAt, str, es_T cut ty, es_V cut ver val, es_W cut val, fr, onn, oi, jn, rm, ec, cl, x_draftType, x_draftValue, x_ops, x_arguments, x_programLength, x_states, x_noted, x_stack, x_metHeight, x_groupType, x_cursor, x_keptCursor, x_parked, x_rowCount, x_rowPosition, x_rowTimes, x_rowDue) s v := by
  have hc := H.1.1
  refine loop_0 (fun n i (_ : Unit) => wX_read_2 post s v (nI c) x_removedCount (nI f) x_drafted x_height x_time x_foundAt str (es_T cut ty) (es_V cut ver val) (es_W cut val) fr onn oi jn rm ec cl x_draftType x_draftValue x_ops x_arguments x_programLength x_states x_noted x_stack x_metHeight x_groupType x_cursor x_keptCursor x_parked x_rowCount x_rowPosition x_rowTimes x_rowDue n (nI i)) (fun i _ => ∀ j, j < i → ¬ (es_S cut str val ver c j ∧ str j = s ∧ ver j = v)) c () (fun j h => by omega) ?_ ?_
  · intro n _ hs
    exact br_t (nI_le (Nat.le_refl c) (by omega)) (hN hs)
  · intro n i _ hi hs ih
    refine br_f (nI_ge hi (by omega)) (ex_isShownL H (by omega) (fun z => br_f (by decide) ⟨vp_in_nI (by omega) (by decide), ?_⟩) (fun z => br_t rfl (nm_r (nI_1 _) (ih () (lt_s hs (fun w => z w.1))))))
    rw [nI_clamp (by omega), es_V0 z.1]
    exact br_c (fun w => ⟨vp_in_nI (by omega) (by decide), br_c (fun y => hF i hi ⟨z, w, y⟩ (fun j _ h => hs j h)) (fun y => nm_r (nI_1 _) (ih () (lt_s hs (fun t => y t.2.2))))⟩) (fun w => nm_r (nI_1 _) (ih () (lt_s hs (fun t => w t.2.1))))
theorem ey_read (H : es_Log c f q cut rm str ty fr byi val ver onn call oi jn ec cl) {post : Int32 → SY → Prop} {s v : Int32}
    (hF : ∀ a, a < c → (es_S cut str val ver c a ∧ str a = s ∧ ver a = v) → (∀ j, 0 ≤ j → j < a → ¬ (es_S cut str val ver c j ∧ str j = s ∧ ver j = v)) → ∀ fd, fd 0 = str a → fd 1 = ver a → fd 2 = ty a → fd 3 = val a → fd 4 = fr a → fd 5 = onn a → post (nI a) (nI c, nI f, nI q, y_drafted, y_top, y_time, cut, rm, str, ty, fr, byi, val, ver, onn, call, y_draftType, y_draftValue, y_op, y_with, y_length, y_height, y_torn, y_stack, y_position, y_cells, y_noted, y_wanted, y_formed, y_cursor, y_parked, y_where, y_often, y_due, y_many, fd))
    (hN : (∀ j, j < c → ¬ (es_S cut str val ver c j ∧ str j = s ∧ ver j = v)) → post (-4) (nI c, nI f, nI q, y_drafted, y_top, y_time, cut, rm, str, ty, fr, byi, val, ver, onn, call, y_draftType, y_draftValue, y_op, y_with, y_length, y_height, y_torn, y_stack, y_position, y_cells, y_noted, y_wanted, y_formed, y_cursor, y_parked, y_where, y_often, y_due, y_many, y_found)) : wpY_read post (nI c, nI f, nI q, y_drafted, y_top, y_time, cut, rm, str, ty, fr, byi, val, ver, onn, call, y_draftType, y_draftValue, y_op, y_with, y_length, y_height, y_torn, y_stack, y_position, y_cells, y_noted, y_wanted, y_formed, y_cursor, y_parked, y_where, y_often, y_due, y_many, y_found) s v := by
  have hc := H.1.1
  refine loop_0 (fun n i (_ : Unit) => wY_read_2 post s v (nI c) (nI f) (nI q) y_drafted y_top y_time cut rm str ty fr byi val ver onn call y_draftType y_draftValue y_op y_with y_length y_height y_torn y_stack y_position y_cells y_noted y_wanted y_formed y_cursor y_parked y_where y_often y_due y_many y_found n (nI i)) (fun i _ => ∀ j, j < i → ¬ (es_S cut str val ver c j ∧ str j = s ∧ ver j = v)) c () (fun j h => by omega) ?_ ?_
  · intro n _ hs
    exact br_t (nI_le (Nat.le_refl c) (by omega)) (hN hs)
  · intro n i _ hi hs ih
    refine br_f (nI_ge hi (by omega)) ⟨vp_in_nI (by omega) (by decide), ?_⟩
    rw [nI_clamp (by omega)]
    exact br_c (fun w => ⟨vp_in_nI (by omega) (by decide), br_c (fun y => ey_shownL H (by omega) (fun z => br_f (by decide) (ey_show (by omega) (hF i hi ⟨z, w, y⟩ (fun j _ h => hs j h)))) (fun z => br_t rfl (nm_r (nI_1 _) (ih () (lt_s hs (fun t => z t.1)))))) (fun y => nm_r (nI_1 _) (ih () (lt_s hs (fun t => y t.2.2))))⟩) (fun w => nm_r (nI_1 _) (ih () (lt_s hs (fun t => w t.2.1))))
theorem i_vc_read {k : Nat} {u : SX} {v : SY} (I : i_Rel k u v) (hk : k + 4 ≤ 2048) (v1 : Int32) (v2 : Int32) : wpX_read (fun r u' => wpY_read (fun r' v' => r' = r ∧ i_Rel (k + 4) u' v') v v1 v2) u v1 v2 := by
  obtain ⟨x_records, x_removedCount, x_flushed, x_drafted, x_height, x_time, x_foundAt, x_recordStream, x_recordType, x_recordVersion, x_recordValue, x_originProjection, x_originPosition, x_originInstruction, x_joined, x_removed, x_eventCount, x_cutLevel, x_draftType, x_draftValue, x_ops, x_arguments, x_programLength, x_states, x_noted, x_stack, x_metHeight, x_groupType, x_cursor, x_keptCursor, x_parked, x_rowCount, x_rowPosition, x_rowTimes, x_rowDue⟩ := u
  obtain ⟨y_count, y_flushed, y_calls, y_drafted, y_top, y_time, y_isCut, y_removed, y_stream, y_type, y_from, y_by, y_value, y_version, y_on, y_call, y_draftType, y_draftValue, y_op, y_with, y_length, y_height, y_torn, y_stack, y_position, y_cells, y_noted, y_wanted, y_formed, y_cursor, y_parked, y_where, y_often, y_due, y_many, y_found⟩ := v
  have J := i_up I
  obtain ⟨q, hq, c, f, d, L, hL, hD, hP, hS, hG, hF⟩ := I
  obtain ⟨rfl, rfl, rfl, rfl, rfl, rfl, rfl, rfl, rfl, rfl, rfl, rfl, rfl, hl⟩ := hL
  refine ex_read hl (fun a g2 g3 g4 => ?_) (fun g => ?_)
  · refine ey_read hl (fun b e2 e3 e4 fd z0 z1 z2 z3 z4 z5 => ?_) (fun e => absurd g3 (e a g2))
    have := es_fstu g3 (Nat.zero_le a) g4 e3 (Nat.zero_le b) e4
    subst this
    exact ⟨rfl, q, by omega, c, f, d, L, ⟨rfl, rfl, rfl, rfl, rfl, rfl, rfl, rfl, rfl, rfl, rfl, rfl, rfl, hl⟩, hD, hP, hS, hG, Or.inr ⟨a, g2, rfl, g3.1.1, z0, z1, z2, z3, z4, z5⟩⟩
  · exact ey_read hl (fun b e2 e3 e4 fd _ _ _ _ _ _ => absurd e3 (g b e2)) (fun _ => ⟨rfl, J⟩)
/-! total -/
theorem em_total (H : es_Log c f q cut rm str ty fr byi val ver onn call oi jn ec cl) {t last : Int32} : ∀ m i, i + m = c → ∀ x : Int64, ∃ r : Int64,
    (∀ post : Int64 → Prop, post r → wX_total_26 post t last (nI c) x_removedCount (nI f) x_drafted x_height x_time x_foundAt str (es_T cut ty) (es_V cut ver val) (es_W cut val) fr onn oi jn rm ec cl x_draftType x_draftValue x_ops x_arguments x_programLength x_states x_noted x_stack x_metHeight x_groupType x_cursor x_keptCursor x_parked x_rowCount x_rowPosition x_rowTimes x_rowDue (m + 1) x (nI i)) ∧ (∀ post : Int64 → Prop, post r → wY_total_25 post t last (nI c) (nI f) (nI q) y_drafted y_top y_time cut rm str ty fr byi val ver onn call y_draftType y_draftValue y_op y_with y_length y_height y_torn y_stack y_position y_cells y_noted y_wanted y_formed y_cursor y_parked y_where y_often y_due y_many y_found (m + 1) x (nI i)) := by
  have hc := H.1.1
  intro m
  induction m with
  | zero =>
    intro i hi x
    exact ⟨x, fun post hp => br_t (nI_le (by omega) (by omega)) hp, fun post hp => br_t (nI_le (by omega) (by omega)) hp⟩
  | succ m ih =>
    intro i hi x
    have hci : ¬ nI c ≤ nI i := nI_ge (by omega) (by omega)
    by_cases hl : last < nI i
    · exact ⟨x, fun post hp => br_f hci (br_t hl hp), fun post hp => br_f hci (br_t hl hp)⟩
    · have hin : vp_in (nI i) 2000 := vp_in_nI (by omega) (by decide)
      obtain ⟨r0, a0, b0⟩ := ih (i + 1) (by omega) x
      by_cases hS : es_S cut str val ver c i
      · obtain ⟨r1, a1, b1⟩ := ih (i + 1) (by omega) (x + (val i).toInt64)
        have eW : es_W cut val (nI i).toNatClampNeg = val i := by rw [nI_clamp (by omega), es_W0 hS.1]
        have eT : es_T cut ty (nI i).toNatClampNeg = ty i := by rw [nI_clamp (by omega), es_T0 hS.1]
        have eV : val (nI i).toNatClampNeg = val i := by rw [nI_clamp (by omega)]
        have eY : ty (nI i).toNatClampNeg = ty i := by rw [nI_clamp (by omega)]
        by_cases h8 : t = 8
        · refine ⟨r1, fun post hp => br_f hci (br_f hl (ex_isShownL H (by omega) (fun _ => br_f (by decide) (br_t h8 ⟨hin, nm_r (by rw [eW]) (nm_r (nI_1 _) (a1 post hp))⟩)) (fun z => absurd hS z))), fun post hp => br_f hci (br_f hl (ey_shownL H (by omega) (fun _ => br_f (by decide) (br_t h8 ⟨hin, nm_r (by rw [eV]) (nm_r (nI_1 _) (b1 post hp))⟩)) (fun z => absurd hS z)))⟩
        · by_cases ht : ty i = t
          · refine ⟨r1, fun post hp => br_f hci (br_f hl (ex_isShownL H (by omega) (fun _ => br_f (by decide) (br_f h8 ⟨hin, br_t (eT.trans ht) ⟨hin, nm_r (by rw [eW]) (nm_r (nI_1 _) (a1 post hp))⟩⟩)) (fun z => absurd hS z))), fun post hp => br_f hci (br_f hl (ey_shownL H (by omega) (fun _ => br_f (by decide) (br_f h8 ⟨hin, br_t (eY.trans ht) ⟨hin, nm_r (by rw [eV]) (nm_r (nI_1 _) (b1 post hp))⟩⟩)) (fun z => absurd hS z)))⟩
          · exact ⟨r0, fun post hp => br_f hci (br_f hl (ex_isShownL H (by omega) (fun _ => br_f (by decide) (br_f h8 ⟨hin, br_f (fun z => ht (eT.symm.trans z)) (nm_r (nI_1 _) (a0 post hp))⟩)) (fun z => absurd hS z))), fun post hp => br_f hci (br_f hl (ey_shownL H (by omega) (fun _ => br_f (by decide) (br_f h8 ⟨hin, br_f (fun z => ht (eY.symm.trans z)) (nm_r (nI_1 _) (b0 post hp))⟩)) (fun z => absurd hS z)))⟩
      · exact ⟨r0, fun post hp => br_f hci (br_f hl (ex_isShownL H (by omega) (fun z => absurd z hS) (fun _ => br_t rfl (nm_r (nI_1 _) (a0 post hp))))), fun post hp => br_f hci (br_f hl (ey_shownL H (by omega) (fun z => absurd z hS) (fun _ => br_t rfl (nm_r (nI_1 _) (b0 post hp)))))⟩
theorem em_total0 (H : es_Log c f q cut rm str ty fr byi val ver onn call oi jn ec cl) {t last : Int32} {i : Nat} (h : i < 2 ^ 31) : ∃ r : Int64,
    (∀ post : Int64 → Prop, post r → ∃ n, wX_total_26 post t last (nI c) x_removedCount (nI f) x_drafted x_height x_time x_foundAt str (es_T cut ty) (es_V cut ver val) (es_W cut val) fr onn oi jn rm ec cl x_draftType x_draftValue x_ops x_arguments x_programLength x_states x_noted x_stack x_metHeight x_groupType x_cursor x_keptCursor x_parked x_rowCount x_rowPosition x_rowTimes x_rowDue n 0 (nI i)) ∧ (∀ post : Int64 → Prop, post r → ∃ n, wY_total_25 post t last (nI c) (nI f) (nI q) y_drafted y_top y_time cut rm str ty fr byi val ver onn call y_draftType y_draftValue y_op y_with y_length y_height y_torn y_stack y_position y_cells y_noted y_wanted y_formed y_cursor y_parked y_where y_often y_due y_many y_found n 0 (nI i)) := by
  by_cases z : i ≤ c
  · obtain ⟨r, a, b⟩ := em_total H (t := t) (last := last) (c - i) i (by omega) 0
    exact ⟨r, fun post hp => ⟨_, a post hp⟩, fun post hp => ⟨_, b post hp⟩⟩
  · exact ⟨0, fun post hp => ⟨1, br_t (nI_le (by omega) h) hp⟩, fun post hp => ⟨1, br_t (nI_le (by omega) h) hp⟩⟩
theorem i_vc_total {k : Nat} {u : SX} {v : SY} (I : i_Rel k u v) (hk : k + 4 ≤ 2048) (v1 : Int32) (v2 : Int32) (v3 : Int32) : wpX_total (fun r => wpY_total (fun r' => r' = r ∧ i_Rel (k + 4) u v) v v1 v2 v3) u v1 v2 v3 := by
  obtain ⟨x_records, x_removedCount, x_flushed, x_drafted, x_height, x_time, x_foundAt, x_recordStream, x_recordType, x_recordVersion, x_recordValue, x_originProjection, x_originPosition, x_originInstruction, x_joined, x_removed, x_eventCount, x_cutLevel, x_draftType, x_draftValue, x_ops, x_arguments, x_programLength, x_states, x_noted, x_stack, x_metHeight, x_groupType, x_cursor, x_keptCursor, x_parked, x_rowCount, x_rowPosition, x_rowTimes, x_rowDue⟩ := u
  obtain ⟨y_count, y_flushed, y_calls, y_drafted, y_top, y_time, y_isCut, y_removed, y_stream, y_type, y_from, y_by, y_value, y_version, y_on, y_call, y_draftType, y_draftValue, y_op, y_with, y_length, y_height, y_torn, y_stack, y_position, y_cells, y_noted, y_wanted, y_formed, y_cursor, y_parked, y_where, y_often, y_due, y_many, y_found⟩ := v
  have J := i_up I
  obtain ⟨q, hq, c, f, d, L, hL, hD, hP, hS, hG, hF⟩ := I
  obtain ⟨rfl, rfl, rfl, rfl, rfl, rfl, rfl, rfl, rfl, rfl, rfl, rfl, rfl, hl⟩ := hL
  dsimp only [wpX_total, wpY_total]
  rcases es_rg v1 9 (by decide) with h | ⟨t, ht, rfl⟩
  · by_cases z : v1 < 0
    · exact br_t z (ey_outT 9 rfl h (br_f (by decide) ⟨rfl, J⟩))
    · exact br_f z (br_f (fun w => es_ltirr (es_ltle (es_lelt w (by decide)) (h.resolve_left z))) (ey_outT 9 rfl h (br_f (by decide) ⟨rfl, J⟩)))
  · by_cases z : 0 ≤ v2
    · obtain ⟨j, hj, rfl⟩ := nI_of (x := v2) (fun w => es_ltirr (es_lelt z w))
      obtain ⟨r, a, b⟩ := em_total0 hl (t := nI t) (last := v3) hj
      exact br_f (nI_pos (by omega)) (br_t (nI_le (b := 8) (by omega) (by decide)) (br_t z (a _ (ey_outF 9 t rfl (by decide) ht (br_t rfl (br_t z (b _ ⟨rfl, J⟩)))))))
    · obtain ⟨r, a, b⟩ := em_total0 hl (t := nI t) (last := v3) (i := 0) (by decide)
      exact br_f (nI_pos (by omega)) (br_t (nI_le (b := 8) (by omega) (by decide)) (br_f z (a _ (ey_outF 9 t rfl (by decide) ht (br_t rfl (br_f z (b _ ⟨rfl, J⟩)))))))
end
end
section
section
/-! entries of rows go and come -/
variable {x_records x_removedCount x_flushed x_drafted x_height x_time x_foundAt : Int32} {x_recordStream x_recordType x_recordVersion x_recordValue x_originProjection x_originPosition x_originInstruction x_joined x_removed x_eventCount x_cutLevel x_draftType x_draftValue x_ops x_arguments x_programLength x_states x_noted x_stack x_metHeight x_groupType x_cursor x_keptCursor x_parked x_rowCount x_rowPosition x_rowTimes x_rowDue : Nat → Int32} {y_count y_flushed y_calls y_drafted y_top y_time : Int32} {y_isCut y_removed y_stream y_type y_from y_by y_value y_version y_on y_call y_draftType y_draftValue y_op y_with y_length y_height y_torn y_stack y_position y_cells y_noted y_wanted y_formed y_cursor y_parked y_where y_often y_due y_many y_found : Nat → Int32}
theorem es_6 (r : Nat) : nI r * 6 = nI (6 * r) := by
  rw [show (6 : Int32) = nI 6 from rfl, pk_mul, Nat.mul_comm]
theorem es_8 (r : Nat) : 8 * nI r = nI (8 * r) := by
  rw [show (8 : Int32) = nI 8 from rfl, pk_mul]
theorem ex_remove {pst : SX → Prop} {r k w b : Nat} (hb : b = 6 * r) (hr : r < 6) (hn : x_rowCount r = nI w) (hk : k < w) (h6 : w ≤ 6)
    (hp : pst (x_records, x_removedCount, x_flushed, x_drafted, x_height, x_time, x_foundAt, x_recordStream, x_recordType, x_recordVersion, x_recordValue, x_originProjection, x_originPosition, x_originInstruction, x_joined, x_removed, x_eventCount, x_cutLevel, x_draftType, x_draftValue, x_ops, x_arguments, x_programLength, x_states, x_noted, x_stack, x_metHeight, x_groupType, x_cursor, x_keptCursor, x_parked, upd x_rowCount r (nI (w - 1)), es_del x_rowPosition (b + k) (b + (w - 1)), es_del x_rowTimes (b + k) (b + (w - 1)), es_del x_rowDue (b + k) (b + (w - 1)))) :
    wpX_removeEntry pst (x_records, x_removedCount, x_flushed, x_drafted, x_height, x_time, x_foundAt, x_recordStream, x_recordType, x_recordVersion, x_recordValue, x_originProjection, x_originPosition, x_originInstruction, x_joined, x_removed, x_eventCount, x_cutLevel, x_draftType, x_draftValue, x_ops, x_arguments, x_programLength, x_states, x_noted, x_stack, x_metHeight, x_groupType, x_cursor, x_keptCursor, x_parked, x_rowCount, x_rowPosition, x_rowTimes, x_rowDue) (nI r) (nI k) := by
  subst hb
  have e1 : (nI r).toNatClampNeg = r := nI_clamp (by omega)
  refine nm_r (es_6 r) ⟨pk_in r 6 hr, pk_in r 6 hr, nm_r (e' := upd x_rowCount r (nI (w - 1))) (by rw [e1, hn, es_s1 (by omega)]) ?_⟩
  refine pk_loop (fun n i (s : (Nat → Int32) × (Nat → Int32) × (Nat → Int32)) => wX_removeEntry_18 pst (nI r) (nI (6 * r)) x_records x_removedCount x_flushed x_drafted x_height x_time x_foundAt n (nI i) x_recordStream x_recordType x_recordVersion x_recordValue x_originProjection x_originPosition x_originInstruction x_joined x_removed x_eventCount x_cutLevel x_draftType x_draftValue x_ops x_arguments x_programLength x_states x_noted x_stack x_metHeight x_groupType x_cursor x_keptCursor x_parked (upd x_rowCount r (nI (w - 1))) s.1 s.2.1 s.2.2)
    (fun i s => k ≤ i ∧ s = (es_del x_rowPosition (6 * r + k) (6 * r + i), es_del x_rowTimes (6 * r + k) (6 * r + i), es_del x_rowDue (6 * r + k) (6 * r + i))) (w - 1) k (x_rowPosition, x_rowTimes, x_rowDue) (by omega) ?_ ?_ ?_
  · rw [es_del_0 (Nat.le_refl _), es_del_0 (Nat.le_refl _), es_del_0 (Nat.le_refl _)]
    exact ⟨Nat.le_refl _, rfl⟩
  · intro n s hs
    obtain ⟨_, hs⟩ := hs
    subst hs
    exact ⟨pk_in r 6 hr, br_t (by rw [e1, pk_us]; exact nI_le (Nat.le_refl _) (by omega)) hp⟩
  · intro n i s hi hs ih
    obtain ⟨hki, hs⟩ := hs
    subst hs
    refine ⟨pk_in r 6 hr, br_f (by rw [e1, pk_us]; exact nI_ge hi (by omega)) ?_⟩
    have c1 : (nI (6 * r) + nI i).toNatClampNeg = 6 * r + i := by rw [nI_add, nI_clamp (by omega)]
    have c2 : (nI (6 * r) + nI i + 1).toNatClampNeg = 6 * r + i + 1 := by rw [nI_add, nI_1, nI_clamp (by omega)]
    have v1 : vp_in (nI (6 * r) + nI i) 36 := by rw [nI_add]; exact vp_in_nI (by omega) (by decide)
    have v2 : vp_in (nI (6 * r) + nI i + 1) 36 := by rw [nI_add, nI_1]; exact vp_in_nI (by omega) (by decide)
    rw [c1, c2]
    exact ⟨v2, v1, nm_r (es_del_s (by omega)) ⟨v2, v1, nm_r (es_del_s (by omega)) ⟨v2, v1, nm_r (es_del_s (by omega)) (nm_r (nI_1 _) (ih (_, _, _) ⟨by omega, rfl⟩))⟩⟩⟩
theorem ey_strike {pst : SY → Prop} {r k w b : Nat} (hb : b = 8 * r) (hr : r < 6) (hn : y_many r = nI w) (hk : k < w) (h6 : w ≤ 6)
    (hp : pst (y_count, y_flushed, y_calls, y_drafted, y_top, y_time, y_isCut, y_removed, y_stream, y_type, y_from, y_by, y_value, y_version, y_on, y_call, y_draftType, y_draftValue, y_op, y_with, y_length, y_height, y_torn, y_stack, y_position, y_cells, y_noted, y_wanted, y_formed, y_cursor, y_parked, es_del y_where (b + k) (b + (w - 1)), es_del y_often (b + k) (b + (w - 1)), es_del y_due (b + k) (b + (w - 1)), upd y_many r (nI (w - 1)), y_found)) :
    wpY_strike pst (y_count, y_flushed, y_calls, y_drafted, y_top, y_time, y_isCut, y_removed, y_stream, y_type, y_from, y_by, y_value, y_version, y_on, y_call, y_draftType, y_draftValue, y_op, y_with, y_length, y_height, y_torn, y_stack, y_position, y_cells, y_noted, y_wanted, y_formed, y_cursor, y_parked, y_where, y_often, y_due, y_many, y_found) (nI r) (nI (b + k)) := by
  subst hb
  have e1 : (nI r).toNatClampNeg = r := nI_clamp (by omega)
  have hw := es_nar (w - 1) (by omega)
  refine ⟨pk_in r 6 hr, pk_in r 6 hr, nm_r (e' := upd y_many r (nI (w - 1))) (by rw [e1, hn, es_s1 (by omega), hw.2, hw.1]) ?_⟩
  refine pk_loop (fun n i (s : (Nat → Int32) × (Nat → Int32) × (Nat → Int32)) => wY_strike_13 pst (nI r) y_count y_flushed y_calls y_drafted y_top y_time n (nI i) y_isCut y_removed y_stream y_type y_from y_by y_value y_version y_on y_call y_draftType y_draftValue y_op y_with y_length y_height y_torn y_stack y_position y_cells y_noted y_wanted y_formed y_cursor y_parked s.1 s.2.1 s.2.2 (upd y_many r (nI (w - 1))) y_found)
    (fun i s => 8 * r + k ≤ i ∧ s = (es_del y_where (8 * r + k) i, es_del y_often (8 * r + k) i, es_del y_due (8 * r + k) i)) (8 * r + (w - 1)) (8 * r + k) (y_where, y_often, y_due) (by omega) ?_ ?_ ?_
  · rw [es_del_0 (Nat.le_refl _), es_del_0 (Nat.le_refl _), es_del_0 (Nat.le_refl _)]
    exact ⟨Nat.le_refl _, rfl⟩
  · intro n s hs
    obtain ⟨_, hs⟩ := hs
    subst hs
    exact ⟨pk_in r 6 hr, br_t (by rw [e1, pk_us, es_8, nI_add]; exact nI_le (Nat.le_refl _) (by omega)) hp⟩
  · intro n i s hi hs ih
    obtain ⟨hki, hs⟩ := hs
    subst hs
    refine ⟨pk_in r 6 hr, br_f (by rw [e1, pk_us, es_8, nI_add]; exact nI_ge hi (by omega)) ?_⟩
    have c1 : (nI i).toNatClampNeg = i := nI_clamp (by omega)
    have c2 : (nI i + 1).toNatClampNeg = i + 1 := by rw [nI_1, nI_clamp (by omega)]
    have v1 : vp_in (nI i) 64 := vp_in_nI (by omega) (by decide)
    have v2 : vp_in (nI i + 1) 64 := by rw [nI_1]; exact vp_in_nI (by omega) (by decide)
    rw [c1, c2]
    exact ⟨v2, v1, nm_r (es_del_s hki) ⟨v2, v1, nm_r (es_del_s hki) ⟨v2, v1, nm_r (es_del_s hki) (nm_r (nI_1 _) (ih (_, _, _) ⟨by omega, rfl⟩))⟩⟩⟩
theorem ex_insert {pst : SX → Prop} {r j w b : Nat} {x tm : Int32} (hb : b = 6 * r) (hr : r < 6) (hn : x_rowCount r = nI w) (hj : j ≤ w) (h6 : w < 6)
    (hp : pst (x_records, x_removedCount, x_flushed, x_drafted, x_height, x_time, x_foundAt, x_recordStream, x_recordType, x_recordVersion, x_recordValue, x_originProjection, x_originPosition, x_originInstruction, x_joined, x_removed, x_eventCount, x_cutLevel, x_draftType, x_draftValue, x_ops, x_arguments, x_programLength, x_states, x_noted, x_stack, x_metHeight, x_groupType, x_cursor, x_keptCursor, x_parked, upd x_rowCount r (nI (w + 1)), upd (es_ins x_rowPosition (b + j) (b + w)) (b + j) x, upd (es_ins x_rowTimes (b + j) (b + w)) (b + j) tm, x_rowDue)) :
    wpX_insertEntry pst (x_records, x_removedCount, x_flushed, x_drafted, x_height, x_time, x_foundAt, x_recordStream, x_recordType, x_recordVersion, x_recordValue, x_originProjection, x_originPosition, x_originInstruction, x_joined, x_removed, x_eventCount, x_cutLevel, x_draftType, x_draftValue, x_ops, x_arguments, x_programLength, x_states, x_noted, x_stack, x_metHeight, x_groupType, x_cursor, x_keptCursor, x_parked, x_rowCount, x_rowPosition, x_rowTimes, x_rowDue) (nI r) (nI j) x tm := by
  subst hb
  have e1 : (nI r).toNatClampNeg = r := nI_clamp (by omega)
  have key : ∀ m i, i = j + m → i ≤ w → wX_insertEntry_26 pst (nI r) (nI j) x tm (nI (6 * r)) x_records x_removedCount x_flushed x_drafted x_height x_time x_foundAt (m + 1) (nI i) x_recordStream x_recordType x_recordVersion x_recordValue x_originProjection x_originPosition x_originInstruction x_joined x_removed x_eventCount x_cutLevel x_draftType x_draftValue x_ops x_arguments x_programLength x_states x_noted x_stack x_metHeight x_groupType x_cursor x_keptCursor x_parked x_rowCount (es_ins x_rowPosition (6 * r + i) (6 * r + w)) (es_ins x_rowTimes (6 * r + i) (6 * r + w)) x_rowDue := by
    intro m
    induction m with
    | zero =>
      intro i hi hw
      have hij : j = i := by omega
      subst hij
      have c1 : (nI (6 * r) + nI j).toNatClampNeg = 6 * r + j := by rw [nI_add, nI_clamp (by omega)]
      have v1 : vp_in (nI (6 * r) + nI j) 36 := by rw [nI_add]; exact vp_in_nI (by omega) (by decide)
      refine br_t (nI_le (Nat.le_refl _) (by omega)) ?_
      rw [c1, e1, hn, nI_1]
      exact ⟨v1, nm_e ⟨v1, nm_e ⟨pk_in r 6 hr, pk_in r 6 hr, nm_e hp⟩⟩⟩
    | succ m ih =>
      intro i hi hw
      refine br_f (nI_ge (by omega) (by omega)) ?_
      have c1 : (nI (6 * r) + nI i).toNatClampNeg = 6 * r + i := by rw [nI_add, nI_clamp (by omega)]
      have c2 : (nI (6 * r) + nI i - 1).toNatClampNeg = 6 * r + i - 1 := by rw [nI_add, es_s1 (by omega), nI_clamp (by omega)]
      have v1 : vp_in (nI (6 * r) + nI i) 36 := by rw [nI_add]; exact vp_in_nI (by omega) (by decide)
      have v2 : vp_in (nI (6 * r) + nI i - 1) 36 := by rw [nI_add, es_s1 (by omega)]; exact vp_in_nI (by omega) (by decide)
      have h := ih (i - 1) (by omega) (by omega)
      rw [show 6 * r + (i - 1) = 6 * r + i - 1 by omega] at h
      rw [c1, c2]
      exact ⟨v2, v1, nm_r (es_ins_s (by omega) (by omega)) ⟨v2, v1, nm_r (es_ins_s (by omega) (by omega)) (nm_r (es_m1 (by omega)) h)⟩⟩
  have h := key (w - j) w (by omega) (Nat.le_refl w)
  rw [es_ins_0 (Nat.le_refl _), es_ins_0 (Nat.le_refl _)] at h
  refine ⟨pk_in r 6 hr, br_t (by rw [e1, hn]; exact nI_lt (b := 6) h6 (by decide)) (nm_r (es_6 r) ⟨pk_in r 6 hr, nm_r (e' := nI w) (by rw [e1, hn]) ⟨_, h⟩⟩)⟩
theorem ey_insert {pst : SY → Prop} {r j w b : Nat} {x tm : Int32} (hb : b = 8 * r) (hr : r < 6) (hn : y_many r = nI w) (hj : j ≤ w) (h6 : w < 6)
    (h1 : 0 < j → y_where (b + j - 1) ≤ x) (h2 : ∀ i, j ≤ i → i < w → ¬ y_where (b + i) ≤ x)
    (hp : pst (y_count, y_flushed, y_calls, y_drafted, y_top, y_time, y_isCut, y_removed, y_stream, y_type, y_from, y_by, y_value, y_version, y_on, y_call, y_draftType, y_draftValue, y_op, y_with, y_length, y_height, y_torn, y_stack, y_position, y_cells, y_noted, y_wanted, y_formed, y_cursor, y_parked, upd (es_ins y_where (b + j) (b + w)) (b + j) x, upd (es_ins y_often (b + j) (b + w)) (b + j) tm, y_due, upd y_many r (nI (w + 1)), y_found)) :
    wpY_insert pst (y_count, y_flushed, y_calls, y_drafted, y_top, y_time, y_isCut, y_removed, y_stream, y_type, y_from, y_by, y_value, y_version, y_on, y_call, y_draftType, y_draftValue, y_op, y_with, y_length, y_height, y_torn, y_stack, y_position, y_cells, y_noted, y_wanted, y_formed, y_cursor, y_parked, y_where, y_often, y_due, y_many, y_found) (nI r) x tm := by
  subst hb
  have e1 : (nI r).toNatClampNeg = r := nI_clamp (by omega)
  have hw := es_nar (w + 1) (by omega)
  have key : ∀ m i, i = j + m → i ≤ w → wY_insert_19 pst (nI r) x tm y_count y_flushed y_calls y_drafted y_top y_time (m + 1) (nI (8 * r + i)) y_isCut y_removed y_stream y_type y_from y_by y_value y_version y_on y_call y_draftType y_draftValue y_op y_with y_length y_height y_torn y_stack y_position y_cells y_noted y_wanted y_formed y_cursor y_parked (es_ins y_where (8 * r + i) (8 * r + w)) (es_ins y_often (8 * r + i) (8 * r + w)) y_due (upd y_many r (nI (w + 1))) y_found := by
    intro m
    induction m with
    | zero =>
      intro i hi hw
      have hij : j = i := by omega
      subst hij
      have c1 : (nI (8 * r + j)).toNatClampNeg = 8 * r + j := nI_clamp (by omega)
      have v1 : vp_in (nI (8 * r + j)) 64 := vp_in_nI (by omega) (by decide)
      have fin : wY_insert_79 pst x tm (nI (8 * r + j)) y_count y_flushed y_calls y_drafted y_top y_time y_isCut y_removed y_stream y_type y_from y_by y_value y_version y_on y_call y_draftType y_draftValue y_op y_with y_length y_height y_torn y_stack y_position y_cells y_noted y_wanted y_formed y_cursor y_parked (es_ins y_where (8 * r + j) (8 * r + w)) (es_ins y_often (8 * r + j) (8 * r + w)) y_due (upd y_many r (nI (w + 1))) y_found := by
        refine ⟨v1, nm_r (by rw [c1]) ⟨v1, nm_r (by rw [c1]) hp⟩⟩
      by_cases z : j = 0
      · exact br_t (by rw [es_8]; exact nI_le (by omega) (by omega)) fin
      · refine br_f (by rw [es_8]; exact nI_ge (by omega) (by omega)) ?_
        rw [es_s1 (by omega)]
        refine ⟨vp_in_nI (by omega) (by decide), br_t ?_ fin⟩
        rw [nI_clamp (by omega), es_ins_o (by omega)]
        exact h1 (by omega)
    | succ m ih =>
      intro i hi hw
      refine br_f (by rw [es_8]; exact nI_ge (by omega) (by omega)) ?_
      have c1 : (nI (8 * r + i)).toNatClampNeg = 8 * r + i := nI_clamp (by omega)
      have c2 : (nI (8 * r + i) - 1).toNatClampNeg = 8 * r + i - 1 := by rw [es_s1 (by omega), nI_clamp (by omega)]
      have v1 : vp_in (nI (8 * r + i)) 64 := vp_in_nI (by omega) (by decide)
      have v2 : vp_in (nI (8 * r + i) - 1) 64 := by rw [es_s1 (by omega)]; exact vp_in_nI (by omega) (by decide)
      have h := ih (i - 1) (by omega) (by omega)
      rw [show 8 * r + (i - 1) = 8 * r + i - 1 by omega] at h
      rw [c1, c2]
      refine ⟨v2, br_f ?_ ⟨v2, v1, nm_r (es_ins_s (by omega) (by omega)) ⟨v2, v1, nm_r (es_ins_s (by omega) (by omega)) (nm_r (es_m1 (by omega)) h)⟩⟩⟩
      rw [es_ins_o (by omega), show 8 * r + i - 1 = 8 * r + (i - 1) by omega]
      exact h2 (i - 1) (by omega) (by omega)
  have h := key (w - j) w (by omega) (Nat.le_refl w)
  rw [es_ins_0 (Nat.le_refl _), es_ins_0 (Nat.le_refl _)] at h
  refine ⟨pk_in r 6 hr, pk_in r 6 hr, nm_r (e' := upd y_many r (nI (w + 1))) (by rw [e1, hn, nI_1, hw.2, hw.1]) (nm_r (e' := nI (8 * r + w)) (by rw [e1, hn, es_8, nI_add]) ⟨_, h⟩)⟩
theorem ey_lend {pst : Int32 → SY → Prop} {g w : Nat} {x tm : Int32} (hg : g < 2) (hn : y_many g = nI w) (h6 : w < 6)
    (hp : pst x (y_count, y_flushed, y_calls, y_drafted, y_top, y_time, y_isCut, y_removed, y_stream, y_type, y_from, y_by, y_value, y_version, y_on, y_call, y_draftType, y_draftValue, y_op, y_with, y_length, y_height, y_torn, y_stack, y_position, y_cells, y_noted, y_wanted, y_formed, y_cursor, y_parked, upd y_where (8 * g + w) x, upd y_often (8 * g + w) tm, upd y_due (8 * g + w) (y_time + 10), upd y_many g (nI (w + 1)), y_found)) :
    wpY_lend pst (y_count, y_flushed, y_calls, y_drafted, y_top, y_time, y_isCut, y_removed, y_stream, y_type, y_from, y_by, y_value, y_version, y_on, y_call, y_draftType, y_draftValue, y_op, y_with, y_length, y_height, y_torn, y_stack, y_position, y_cells, y_noted, y_wanted, y_formed, y_cursor, y_parked, y_where, y_often, y_due, y_many, y_found) (nI g) x tm := by
  have e1 : (nI g).toNatClampNeg = g := nI_clamp (by omega)
  have hw := es_nar (w + 1) (by omega)
  have c1 : (nI (8 * g + w)).toNatClampNeg = 8 * g + w := nI_clamp (by omega)
  have v1 : vp_in (nI (8 * g + w)) 64 := vp_in_nI (by omega) (by decide)
  refine ⟨pk_in g 6 (by omega), pk_in g 6 (by omega), nm_r (e' := upd y_many g (nI (w + 1))) (by rw [e1, hn, nI_1, hw.2, hw.1]) (nm_r (e' := nI (8 * g + w)) (by rw [e1, hn, es_8, nI_add]) ?_)⟩
  rw [c1]
  exact ⟨v1, nm_e ⟨v1, nm_e ⟨v1, nm_e hp⟩⟩⟩
end
end
section
section
/-! an event is returned: component and reference -/
variable {x_records x_removedCount x_flushed x_drafted x_height x_time x_foundAt : Int32} {x_recordStream x_recordType x_recordVersion x_recordValue x_originProjection x_originPosition x_originInstruction x_joined x_removed x_eventCount x_cutLevel x_draftType x_draftValue x_ops x_arguments x_programLength x_states x_noted x_stack x_metHeight x_groupType x_cursor x_keptCursor x_parked x_rowCount x_rowPosition x_rowTimes x_rowDue : Nat → Int32} {y_count y_flushed y_calls y_drafted y_top y_time : Int32} {y_isCut y_removed y_stream y_type y_from y_by y_value y_version y_on y_call y_draftType y_draftValue y_op y_with y_length y_height y_torn y_stack y_position y_cells y_noted y_wanted y_formed y_cursor y_parked y_where y_often y_due y_many y_found : Nat → Int32} {c f g nt nw nk u k : Nat}
theorem es_g3 (g : Nat) : nI g * 3 + 0 = nI (3 * g) := by
  rw [show (3 : Int32) = nI 3 from rfl, pk_mul, Nat.mul_comm, Int32.add_zero]
theorem es_g31 (g : Nat) : nI g * 3 + 1 = nI (3 * g + 1) := by
  rw [show (3 : Int32) = nI 3 from rfl, pk_mul, Nat.mul_comm, nI_1]
theorem es_g32 (g : Nat) : nI g * 3 + 2 = nI (3 * g + 2) := by
  rw [show (3 : Int32) = nI 3 from rfl, show (2 : Int32) = nI 2 from rfl, pk_mul, Nat.mul_comm, nI_add]
theorem es_2g (g : Nat) : 2 + nI g = nI (2 + g) := by
  rw [show (2 : Int32) = nI 2 from rfl, nI_add]
theorem es_4g (g : Nat) : 4 + nI g = nI (4 + g) := by
  rw [show (4 : Int32) = nI 4 from rfl, nI_add]
theorem ex_return {pst : SX → Prop} {i : Nat} (hg : g < 2) (h1 : x_rowCount (3 * g) = nI nt) (h2 : x_rowCount (3 * g + 1) = nI nw) (hi : i < nt) (hn : nt + nw ≤ 6)
    (hA : x_rowTimes (18 * g + i) < 3 → pst (x_records, x_removedCount, x_flushed, x_drafted, x_height, x_time, x_foundAt, x_recordStream, x_recordType, x_recordVersion, x_recordValue, x_originProjection, x_originPosition, x_originInstruction, x_joined, x_removed, x_eventCount, x_cutLevel, x_draftType, x_draftValue, x_ops, x_arguments, x_programLength, x_states, x_noted, x_stack, x_metHeight, x_groupType, x_cursor, x_keptCursor, x_parked, upd (upd x_rowCount (3 * g) (nI (nt - 1))) (3 * g + 1) (nI (nw + 1)), upd (es_del x_rowPosition (18 * g + i) (18 * g + (nt - 1))) (18 * g + 6 + nw) (x_rowPosition (18 * g + i)), upd (es_del x_rowTimes (18 * g + i) (18 * g + (nt - 1))) (18 * g + 6 + nw) (x_rowTimes (18 * g + i)), es_del x_rowDue (18 * g + i) (18 * g + (nt - 1))))
    (hB : ¬ x_rowTimes (18 * g + i) < 3 → pst (x_records, x_removedCount, x_flushed, x_drafted, x_height, x_time, x_foundAt, x_recordStream, x_recordType, x_recordVersion, x_recordValue, x_originProjection, x_originPosition, x_originInstruction, x_joined, x_removed, x_eventCount, x_cutLevel, x_draftType, x_draftValue, x_ops, x_arguments, x_programLength, x_states, x_noted, x_stack, x_metHeight, x_groupType, x_cursor, x_keptCursor, upd x_parked g (x_parked g + 1), upd x_rowCount (3 * g) (nI (nt - 1)), es_del x_rowPosition (18 * g + i) (18 * g + (nt - 1)), es_del x_rowTimes (18 * g + i) (18 * g + (nt - 1)), es_del x_rowDue (18 * g + i) (18 * g + (nt - 1)))) :
    wpX_returnEntry pst (x_records, x_removedCount, x_flushed, x_drafted, x_height, x_time, x_foundAt, x_recordStream, x_recordType, x_recordVersion, x_recordValue, x_originProjection, x_originPosition, x_originInstruction, x_joined, x_removed, x_eventCount, x_cutLevel, x_draftType, x_draftValue, x_ops, x_arguments, x_programLength, x_states, x_noted, x_stack, x_metHeight, x_groupType, x_cursor, x_keptCursor, x_parked, x_rowCount, x_rowPosition, x_rowTimes, x_rowDue) (nI g) (nI i) := by
  have c1 : nI (3 * g) * 6 + nI i = nI (18 * g + i) := by rw [es_6, nI_add, show 6 * (3 * g) + i = 18 * g + i by omega]
  refine nm_r (es_g3 g) (nm_r (es_g31 g) ?_)
  rw [c1, nI_clamp (by omega)]
  refine ⟨vp_in_nI (by omega) (by decide), nm_e ⟨vp_in_nI (by omega) (by decide), nm_e ?_⟩⟩
  refine ex_remove (b := 18 * g) (by omega) (by omega) h1 hi (by omega) ?_
  refine br_c (fun z => ⟨vp_in_nI (by omega) (by decide), ?_⟩) (fun z => ⟨vp_in_nI hg (by decide), vp_in_nI hg (by decide), nm_r (e' := upd x_parked g (x_parked g + 1)) (by rw [nI_clamp (by omega)]) (hB z)⟩)
  have e2 : upd x_rowCount (3 * g) (nI (nt - 1)) (nI (3 * g + 1)).toNatClampNeg = nI nw := by rw [nI_clamp (by omega), pk_un (by omega), h2]
  rw [e2]
  refine ex_insert (b := 18 * g + 6) (by omega) (by omega) (by rw [pk_un (by omega), h2]) (Nat.le_refl nw) (by omega) ?_
  rw [es_ins_0 (Nat.le_refl _), es_ins_0 (Nat.le_refl _)]
  exact hA z
theorem ey_giveBack {pst : SY → Prop} {i : Nat} (hg : g < 2) (h1 : y_many g = nI nt) (h2 : y_many (2 + g) = nI nw) (hi : i < nt) (hn : nt + nw ≤ 6)
    (hA : y_often (8 * g + i) < 3 → pst (y_count, y_flushed, y_calls, y_drafted, y_top, y_time, y_isCut, y_removed, y_stream, y_type, y_from, y_by, y_value, y_version, y_on, y_call, y_draftType, y_draftValue, y_op, y_with, y_length, y_height, y_torn, y_stack, y_position, y_cells, y_noted, y_wanted, y_formed, y_cursor, y_parked, upd (es_del y_where (8 * g + i) (8 * g + (nt - 1))) (16 + 8 * g + nw) (y_where (8 * g + i)), upd (es_del y_often (8 * g + i) (8 * g + (nt - 1))) (16 + 8 * g + nw) (y_often (8 * g + i)), es_del y_due (8 * g + i) (8 * g + (nt - 1)), upd (upd y_many g (nI (nt - 1))) (2 + g) (nI (nw + 1)), y_found))
    (hB : ¬ y_often (8 * g + i) < 3 → pst (y_count, y_flushed, y_calls, y_drafted, y_top, y_time, y_isCut, y_removed, y_stream, y_type, y_from, y_by, y_value, y_version, y_on, y_call, y_draftType, y_draftValue, y_op, y_with, y_length, y_height, y_torn, y_stack, y_position, y_cells, y_noted, y_wanted, y_formed, y_cursor, upd y_parked g (y_parked g + 1), es_del y_where (8 * g + i) (8 * g + (nt - 1)), es_del y_often (8 * g + i) (8 * g + (nt - 1)), es_del y_due (8 * g + i) (8 * g + (nt - 1)), upd y_many g (nI (nt - 1)), y_found)) :
    wpY_giveBack pst (y_count, y_flushed, y_calls, y_drafted, y_top, y_time, y_isCut, y_removed, y_stream, y_type, y_from, y_by, y_value, y_version, y_on, y_call, y_draftType, y_draftValue, y_op, y_with, y_length, y_height, y_torn, y_stack, y_position, y_cells, y_noted, y_wanted, y_formed, y_cursor, y_parked, y_where, y_often, y_due, y_many, y_found) (nI g) (nI (8 * g + i)) := by
  have hw := es_nar (nw + 1) (by omega)
  have c1 : 8 * nI (2 + g) + nI nw = nI (16 + 8 * g + nw) := by rw [es_8, nI_add, show 8 * (2 + g) + nw = 16 + 8 * g + nw by omega]
  have e2 : (nI (2 + g)).toNatClampNeg = 2 + g := nI_clamp (by omega)
  have e3 : (nI (8 * g + i)).toNatClampNeg = 8 * g + i := nI_clamp (by omega)
  have e4 : (nI (16 + 8 * g + nw)).toNatClampNeg = 16 + 8 * g + nw := nI_clamp (by omega)
  have v1 : vp_in (nI (8 * g + i)) 64 := vp_in_nI (by omega) (by decide)
  have v2 : vp_in (nI (16 + 8 * g + nw)) 64 := vp_in_nI (by omega) (by decide)
  have v3 : vp_in (nI (2 + g)) 6 := vp_in_nI (by omega) (by decide)
  refine nm_r (es_2g g) ⟨v1, ?_⟩
  rw [e2, e3]
  refine br_c (fun z => ⟨v3, v3, nm_r (e' := upd y_many (2 + g) (nI (nw + 1))) (by rw [h2, nI_1, hw.2, hw.1]) (nm_r (e' := nI (16 + 8 * g + nw)) (by rw [h2, c1]) ?_)⟩) (fun z => ⟨vp_in_nI hg (by decide), vp_in_nI hg (by decide), nm_r (e' := upd y_parked g (y_parked g + 1)) (by rw [nI_clamp (by omega)]) ?_⟩)
  · rw [e4]
    refine ⟨v1, v2, nm_e ⟨v1, v2, nm_r (e' := upd y_often (16 + 8 * g + nw) (y_often (8 * g + i))) rfl ?_⟩⟩
    refine ey_strike (b := 8 * g) rfl (by omega) (by rw [pk_un (by omega), h1]) hi (by omega) ?_
    rw [es_upc (by omega), es_del_u (by omega), es_del_u (by omega)]
    exact hA z
  · exact ey_strike (b := 8 * g) rfl (by omega) h1 hi (by omega) (hB z)
/-- the group after it -/
theorem es_Grp_ret {cu kc rn rp rt rd cv mn wh oft du : Nat → Int32} {i : Nat} (H : es_Grp c f g nt nw nk u k cu kc rn rp rt rd cv mn wh oft du) (hi : i < nt) (hg : g < 2) :
    es_Grp c f g (nt - 1) (nw + 1) nk u k cu kc (upd (upd rn (3 * g) (nI (nt - 1))) (3 * g + 1) (nI (nw + 1))) (upd (es_del rp (18 * g + i) (18 * g + (nt - 1))) (18 * g + 6 + nw) (rp (18 * g + i))) (upd (es_del rt (18 * g + i) (18 * g + (nt - 1))) (18 * g + 6 + nw) (rt (18 * g + i))) (es_del rd (18 * g + i) (18 * g + (nt - 1)))
      cv (upd (upd mn g (nI (nt - 1))) (2 + g) (nI (nw + 1))) (upd (es_del wh (8 * g + i) (8 * g + (nt - 1))) (16 + 8 * g + nw) (wh (8 * g + i))) (upd (es_del oft (8 * g + i) (8 * g + (nt - 1))) (16 + 8 * g + nw) (oft (8 * g + i))) (es_del du (8 * g + i) (8 * g + (nt - 1))) := by
  have H2 := es_Grp_dt H hi hg
  obtain ⟨a0, a1, a2, a3, a4, a5, a6, a7, a8, a9, a10⟩ := H
  obtain ⟨⟨a, ha, e1⟩, e2, e3⟩ := a3 i hi
  rw [e2, e3, e1]
  refine es_Grp_aw H2 (by omega) hg ha (fun j hj e => ?_) (fun j hj e => ?_)
  · obtain ⟨j', b1, b2, b3, b4, b5⟩ := es_del_w (b := 18 * g) rp hi j hj
    rw [b5, ← e1] at e
    exact b2 (a7 j' i b1 hi e)
  · rw [es_del_o (by omega), ← e1] at e
    exact a9 i j hi hj e.symm
/-- one group changes, the other is as it was -/
theorem es_RG_set {cu' kc' rn' rp' rt' rd' cv' mn' wh' oft' du' pk' : Nat → Int32} {nt' nw' nk' u' k' : Nat} (H : es_RG c f x_groupType x_cursor x_keptCursor x_parked x_rowCount x_rowPosition x_rowTimes x_rowDue x_time y_formed y_wanted y_cursor y_parked y_many y_where y_often y_due y_time) (hg : g < 2)
    (hz : y_formed g = 0 → nt' = 0) (hn : es_Grp c f g nt' nw' nk' u' k' cu' kc' rn' rp' rt' rd' cv' mn' wh' oft' du')
    (F1 : ∀ j, (j < 18 * g ∨ 18 * g + 18 ≤ j) → rp' j = x_rowPosition j ∧ rt' j = x_rowTimes j ∧ rd' j = x_rowDue j)
    (F2 : ∀ j, (j < 3 * g ∨ 3 * g + 3 ≤ j) → rn' j = x_rowCount j)
    (F3 : ∀ j, j ≠ g → j ≠ 2 + g → j ≠ 4 + g → mn' j = y_many j)
    (F4 : ∀ j, (j < 8 * g ∨ 8 * g + 8 ≤ j) → (j < 16 + 8 * g ∨ 24 + 8 * g ≤ j) → (j < 32 + 8 * g ∨ 40 + 8 * g ≤ j) → wh' j = y_where j ∧ oft' j = y_often j ∧ du' j = y_due j)
    (F5 : ∀ j, j ≠ g → cu' j = x_cursor j ∧ kc' j = x_keptCursor j)
    (F6 : ∀ j, j ≠ g → j ≠ 2 + g → cv' j = y_cursor j) :
    es_RG c f x_groupType (cu') (kc') (pk') (rn') (rp') (rt') (rd') x_time y_formed y_wanted (cv') (pk') (mn') (wh') (oft') (du') y_time := by
  obtain ⟨_, h2, h3⟩ := H
  refine ⟨rfl, h2, fun e he => ?_⟩
  by_cases eg : e = g
  · subst eg
    exact ⟨(h3 e he).1, nt', nw', nk', u', k', hz, hn⟩
  · obtain ⟨a, mt, mw, mk, w, l, b, h⟩ := h3 e he
    refine ⟨a, mt, mw, mk, w, l, b, es_Grp_c h ⟨(F5 e eg).1, F6 e eg (by omega), (F5 e eg).2, F6 (2 + e) (by omega) (by omega)⟩ (fun i hi => F2 _ (by omega)) ⟨F3 e eg (by omega) (by omega), F3 (2 + e) (by omega) (by omega) (by omega), F3 (4 + e) (by omega) (by omega) (by omega)⟩ (fun i hi => F1 _ (by omega)) (fun m i hm hi => F4 _ (by omega) (by omega) (by omega))⟩
/-- an event is returned: the groups -/
theorem es_RG_retA {i : Nat} (H : es_RG c f x_groupType x_cursor x_keptCursor x_parked x_rowCount x_rowPosition x_rowTimes x_rowDue x_time y_formed y_wanted y_cursor y_parked y_many y_where y_often y_due y_time) (hg : g < 2) (hz : y_formed g = 0 → nt = 0) (hi : i < nt)
    (h : es_Grp c f g nt nw nk u k x_cursor x_keptCursor x_rowCount x_rowPosition x_rowTimes x_rowDue y_cursor y_many y_where y_often y_due) :
    es_RG c f x_groupType x_cursor x_keptCursor x_parked (upd (upd x_rowCount (3 * g) (nI (nt - 1))) (3 * g + 1) (nI (nw + 1))) (upd (es_del x_rowPosition (18 * g + i) (18 * g + (nt - 1))) (18 * g + 6 + nw) (x_rowPosition (18 * g + i))) (upd (es_del x_rowTimes (18 * g + i) (18 * g + (nt - 1))) (18 * g + 6 + nw) (x_rowTimes (18 * g + i))) (es_del x_rowDue (18 * g + i) (18 * g + (nt - 1))) x_time y_formed y_wanted y_cursor y_parked (upd (upd y_many g (nI (nt - 1))) (2 + g) (nI (nw + 1))) (upd (es_del y_where (8 * g + i) (8 * g + (nt - 1))) (16 + 8 * g + nw) (y_where (8 * g + i))) (upd (es_del y_often (8 * g + i) (8 * g + (nt - 1))) (16 + 8 * g + nw) (y_often (8 * g + i))) (es_del y_due (8 * g + i) (8 * g + (nt - 1))) y_time := by
  have hn := h.1.2.2.1
  have hp := H.1
  subst hp
  refine es_RG_set H hg (fun z => by have := hz z; omega) (es_Grp_ret h hi hg) (fun j hj => ?_) (fun j hj => ?_) (fun j a b d => ?_) (fun j a b d => ?_) (fun j _ => ⟨rfl, rfl⟩) (fun j _ _ => rfl)
  · rw [pk_un (by omega), pk_un (by omega), es_del_o (by omega), es_del_o (by omega), es_del_o (by omega)]
    exact ⟨rfl, rfl, rfl⟩
  · rw [pk_un (by omega), pk_un (by omega)]
  · rw [pk_un b, pk_un a]
  · rw [pk_un (by omega), pk_un (by omega), es_del_o (by omega), es_del_o (by omega), es_del_o (by omega)]
    exact ⟨rfl, rfl, rfl⟩
theorem es_RG_delT {i : Nat} {pk' : Nat → Int32} (H : es_RG c f x_groupType x_cursor x_keptCursor x_parked x_rowCount x_rowPosition x_rowTimes x_rowDue x_time y_formed y_wanted y_cursor y_parked y_many y_where y_often y_due y_time) (hg : g < 2) (hz : y_formed g = 0 → nt = 0) (hi : i < nt)
    (h : es_Grp c f g nt nw nk u k x_cursor x_keptCursor x_rowCount x_rowPosition x_rowTimes x_rowDue y_cursor y_many y_where y_often y_due) :
    es_RG c f x_groupType x_cursor x_keptCursor (pk') (upd x_rowCount (3 * g) (nI (nt - 1))) (es_del x_rowPosition (18 * g + i) (18 * g + (nt - 1))) (es_del x_rowTimes (18 * g + i) (18 * g + (nt - 1))) (es_del x_rowDue (18 * g + i) (18 * g + (nt - 1))) x_time y_formed y_wanted y_cursor (pk') (upd y_many g (nI (nt - 1))) (es_del y_where (8 * g + i) (8 * g + (nt - 1))) (es_del y_often (8 * g + i) (8 * g + (nt - 1))) (es_del y_due (8 * g + i) (8 * g + (nt - 1))) y_time := by
  have hn := h.1.2.2.1
  refine es_RG_set H hg (fun z => by have := hz z; omega) (es_Grp_dt h hi hg) (fun j hj => ?_) (fun j hj => ?_) (fun j a b d => ?_) (fun j a b d => ?_) (fun j _ => ⟨rfl, rfl⟩) (fun j _ _ => rfl)
  · rw [es_del_o (by omega), es_del_o (by omega), es_del_o (by omega)]
    exact ⟨rfl, rfl, rfl⟩
  · rw [pk_un (by omega)]
  · rw [pk_un a]
  · rw [es_del_o (by omega), es_del_o (by omega), es_del_o (by omega)]
    exact ⟨rfl, rfl, rfl⟩
end
end
section
section
/-! the first that is due -/
variable {x_records x_removedCount x_flushed x_drafted x_height x_time x_foundAt : Int32} {x_recordStream x_recordType x_recordVersion x_recordValue x_originProjection x_originPosition x_originInstruction x_joined x_removed x_eventCount x_cutLevel x_draftType x_draftValue x_ops x_arguments x_programLength x_states x_noted x_stack x_metHeight x_groupType x_cursor x_keptCursor x_parked x_rowCount x_rowPosition x_rowTimes x_rowDue : Nat → Int32} {y_count y_flushed y_calls y_drafted y_top y_time : Int32} {y_isCut y_removed y_stream y_type y_from y_by y_value y_version y_on y_call y_draftType y_draftValue y_op y_with y_length y_height y_torn y_stack y_position y_cells y_noted y_wanted y_formed y_cursor y_parked y_where y_often y_due y_many y_found : Nat → Int32} {c f d q g nt nw nk u k : Nat} {L : Nat → Nat}
def es_ox : Option Nat → Int32
  | none => -4
  | some b => nI b
def es_oy (g : Nat) : Option Nat → Int32
  | none => -1
  | some b => nI (8 * g + b)
theorem em_due1 (hg : g < 2) (hn : nt ≤ 6) (h1 : x_rowCount (3 * g) = nI nt) (h2 : y_many g = nI nt)
    (hw : ∀ i, i < nt → y_where (8 * g + i) = x_rowPosition (18 * g + i)) (hd : ∀ i, i < nt → y_due (8 * g + i) = x_rowDue (18 * g + i)) :
    ∀ m i, i + m = nt → ∀ o : Option Nat, (∀ b, o = some b → b < nt) → ∃ o' : Option Nat, (∀ b, o' = some b → b < nt) ∧
      (∀ post : Int32 → Prop, post (es_ox o') → wX_firstDue_18 post (nI (3 * g)) (nI (18 * g)) x_records x_removedCount x_flushed x_drafted x_height x_time x_foundAt x_recordStream x_recordType x_recordVersion x_recordValue x_originProjection x_originPosition x_originInstruction x_joined x_removed x_eventCount x_cutLevel x_draftType x_draftValue x_ops x_arguments x_programLength x_states x_noted x_stack x_metHeight x_groupType x_cursor x_keptCursor x_parked x_rowCount x_rowPosition x_rowTimes x_rowDue (m + 1) (es_ox o) (nI i)) ∧
      (∀ post : Int32 → Prop, post (es_oy g o') → wY_late_7 post (nI g) y_count y_flushed y_calls y_drafted y_top x_time y_isCut y_removed y_stream y_type y_from y_by y_value y_version y_on y_call y_draftType y_draftValue y_op y_with y_length y_height y_torn y_stack y_position y_cells y_noted y_wanted y_formed y_cursor y_parked y_where y_often y_due y_many y_found (m + 1) (es_oy g o) (nI (8 * g + i))) := by
  have e1 : (nI (3 * g)).toNatClampNeg = 3 * g := nI_clamp (by omega)
  have e2 : (nI g).toNatClampNeg = g := nI_clamp (by omega)
  have v1 : vp_in (nI (3 * g)) 6 := vp_in_nI (by omega) (by decide)
  have v2 : vp_in (nI g) 6 := vp_in_nI (by omega) (by decide)
  have b1 : 8 * nI g + y_many (nI g).toNatClampNeg = nI (8 * g + nt) := by rw [e2, h2, es_8, nI_add]
  have b0 : x_rowCount (nI (3 * g)).toNatClampNeg = nI nt := by rw [e1, h1]
  intro m
  induction m with
  | zero =>
    intro i hi o ho
    refine ⟨o, ho, fun post hp => ⟨v1, br_t ?_ hp⟩, fun post hp => ⟨v2, br_t ?_ hp⟩⟩
    · rw [b0]; exact nI_le (by omega) (by omega)
    · rw [b1]; exact nI_le (by omega) (by omega)
  | succ m ih =>
    intro i hi o ho
    have hit : i < nt := by omega
    have x1 : ¬ x_rowCount (nI (3 * g)).toNatClampNeg ≤ nI i := by rw [b0]; exact nI_ge (by omega) (by omega)
    have y1 : ¬ 8 * nI g + y_many (nI g).toNatClampNeg ≤ nI (8 * g + i) := by rw [b1]; exact nI_ge (by omega) (by omega)
    have xi : nI (18 * g) + nI i = nI (18 * g + i) := nI_add _ _
    have vx : vp_in (nI (18 * g) + nI i) 36 := by rw [xi]; exact vp_in_nI (by omega) (by decide)
    have vy : vp_in (nI (8 * g + i)) 64 := vp_in_nI (by omega) (by decide)
    have cx : (nI (18 * g) + nI i).toNatClampNeg = 18 * g + i := by rw [xi, nI_clamp (by omega)]
    have cy : (nI (8 * g + i)).toNatClampNeg = 8 * g + i := nI_clamp (by omega)
    have hdi := hd i hit
    have hwi := hw i hit
    have ny : nI (8 * g + i) + 1 = nI (8 * g + (i + 1)) := nI_1 _
    obtain ⟨oK, gK, aK, bK⟩ := ih (i + 1) (by omega) o ho
    obtain ⟨oN, gN, aN, bN⟩ := ih (i + 1) (by omega) (some i) (fun b e => by cases e; exact hit)
    by_cases ht : x_time < x_rowDue (18 * g + i)
    · refine ⟨oK, gK, fun post hp => ⟨v1, br_f x1 ⟨vx, br_t (by rw [cx]; exact ht) (nm_r (nI_1 _) (aK post hp))⟩⟩, fun post hp => ⟨v2, br_f y1 ⟨vy, br_f (by rw [cy, hdi]; exact fun z => es_ltirr (es_ltle ht z)) (nm_r ny (bK post hp))⟩⟩⟩
    · have ht' : x_rowDue (18 * g + i) ≤ x_time := es_nlt ht
      cases o with
      | none =>
        exact ⟨oN, gN, fun post hp => ⟨v1, br_f x1 ⟨vx, br_f (by rw [cx]; exact ht) (br_t rfl (nm_r (nI_1 _) (aN post hp)))⟩⟩, fun post hp => ⟨v2, br_f y1 ⟨vy, br_t (by rw [cy, hdi]; exact ht') (br_t (show (-1 : Int32) < 0 by decide) (nm_r ny (bN post hp)))⟩⟩⟩
      | some b =>
        have hb : b < nt := ho b rfl
        have hdb := hd b hb
        have hwb := hw b hb
        have n4 : ¬ es_ox (some b) = -4 := es_nm4 (by omega)
        have n0 : ¬ es_oy g (some b) < 0 := nI_pos (by omega)
        have xb : nI (18 * g) + es_ox (some b) = nI (18 * g + b) := nI_add _ _
        have vb : vp_in (nI (18 * g) + es_ox (some b)) 36 := by rw [xb]; exact vp_in_nI (by omega) (by decide)
        have cb : (nI (18 * g) + es_ox (some b)).toNatClampNeg = 18 * g + b := by rw [xb, nI_clamp (by omega)]
        have wb : vp_in (es_oy g (some b)) 64 := vp_in_nI (n := 8 * g + b) (by omega) (by decide)
        have db : (es_oy g (some b)).toNatClampNeg = 8 * g + b := nI_clamp (n := 8 * g + b) (by omega)
        have xs : ∀ (P : Int32 → Prop), (if x_rowDue (18 * g + i) = x_rowDue (18 * g + b) then (if x_rowPosition (18 * g + b) ≤ x_rowPosition (18 * g + i) then P 0 else P 1) else (if x_rowDue (18 * g + b) ≤ x_rowDue (18 * g + i) then P 0 else P 1)) → wpX_isDueBefore P (x_records, x_removedCount, x_flushed, x_drafted, x_height, x_time, x_foundAt, x_recordStream, x_recordType, x_recordVersion, x_recordValue, x_originProjection, x_originPosition, x_originInstruction, x_joined, x_removed, x_eventCount, x_cutLevel, x_draftType, x_draftValue, x_ops, x_arguments, x_programLength, x_states, x_noted, x_stack, x_metHeight, x_groupType, x_cursor, x_keptCursor, x_parked, x_rowCount, x_rowPosition, x_rowTimes, x_rowDue) (nI (18 * g) + nI i) (nI (18 * g) + es_ox (some b)) := by
          intro P hP
          refine ⟨vx, vb, ?_⟩
          rw [cx, cb]
          refine br_c (fun z => ⟨vx, vb, ?_⟩) (fun z => ⟨vx, vb, ?_⟩)
          · rw [if_pos z] at hP
            exact br_c (fun w => by rw [if_pos w] at hP; exact hP) (fun w => by rw [if_neg w] at hP; exact hP)
          · rw [if_neg z] at hP
            exact br_c (fun w => by rw [if_pos w] at hP; exact hP) (fun w => by rw [if_neg w] at hP; exact hP)
        have yK : ∀ post : Int32 → Prop, post (es_oy g oK) → ¬ x_rowDue (18 * g + i) < x_rowDue (18 * g + b) → (x_rowDue (18 * g + i) = x_rowDue (18 * g + b) → x_rowPosition (18 * g + b) ≤ x_rowPosition (18 * g + i)) → wY_late_7 post (nI g) y_count y_flushed y_calls y_drafted y_top x_time y_isCut y_removed y_stream y_type y_from y_by y_value y_version y_on y_call y_draftType y_draftValue y_op y_with y_length y_height y_torn y_stack y_position y_cells y_noted y_wanted y_formed y_cursor y_parked y_where y_often y_due y_many y_found (m + 1 + 1) (es_oy g (some b)) (nI (8 * g + i)) := by
          intro post hp z w
          refine ⟨v2, br_f y1 ⟨vy, br_t (by rw [cy, hdi]; exact ht') (br_f n0 ⟨vy, wb, ?_⟩)⟩⟩
          rw [cy, db, hdi, hdb, hwi, hwb]
          exact br_f z ⟨vy, wb, br_c (fun e => ⟨vy, wb, br_t (w e) (nm_r ny (bK post hp))⟩) (fun e => nm_r ny (bK post hp))⟩
        have yN : ∀ post : Int32 → Prop, post (es_oy g oN) → (x_rowDue (18 * g + i) < x_rowDue (18 * g + b) ∨ (x_rowDue (18 * g + i) = x_rowDue (18 * g + b) ∧ ¬ x_rowPosition (18 * g + b) ≤ x_rowPosition (18 * g + i))) → wY_late_7 post (nI g) y_count y_flushed y_calls y_drafted y_top x_time y_isCut y_removed y_stream y_type y_from y_by y_value y_version y_on y_call y_draftType y_draftValue y_op y_with y_length y_height y_torn y_stack y_position y_cells y_noted y_wanted y_formed y_cursor y_parked y_where y_often y_due y_many y_found (m + 1 + 1) (es_oy g (some b)) (nI (8 * g + i)) := by
          intro post hp z
          refine ⟨v2, br_f y1 ⟨vy, br_t (by rw [cy, hdi]; exact ht') (br_f n0 ⟨vy, wb, ?_⟩)⟩⟩
          rw [cy, db, hdi, hdb, hwi, hwb]
          refine br_c (fun e => nm_r ny (bN post hp)) (fun e => ⟨vy, wb, ?_⟩)
          rcases z with z | z
          · exact absurd z e
          · exact br_t z.1 ⟨vy, wb, br_f z.2 (nm_r ny (bN post hp))⟩
        have xK : ∀ post : Int32 → Prop, post (es_ox oK) → (∀ P : Int32 → Prop, P 0 → wpX_isDueBefore P (x_records, x_removedCount, x_flushed, x_drafted, x_height, x_time, x_foundAt, x_recordStream, x_recordType, x_recordVersion, x_recordValue, x_originProjection, x_originPosition, x_originInstruction, x_joined, x_removed, x_eventCount, x_cutLevel, x_draftType, x_draftValue, x_ops, x_arguments, x_programLength, x_states, x_noted, x_stack, x_metHeight, x_groupType, x_cursor, x_keptCursor, x_parked, x_rowCount, x_rowPosition, x_rowTimes, x_rowDue) (nI (18 * g) + nI i) (nI (18 * g) + es_ox (some b))) → wX_firstDue_18 post (nI (3 * g)) (nI (18 * g)) x_records x_removedCount x_flushed x_drafted x_height x_time x_foundAt x_recordStream x_recordType x_recordVersion x_recordValue x_originProjection x_originPosition x_originInstruction x_joined x_removed x_eventCount x_cutLevel x_draftType x_draftValue x_ops x_arguments x_programLength x_states x_noted x_stack x_metHeight x_groupType x_cursor x_keptCursor x_parked x_rowCount x_rowPosition x_rowTimes x_rowDue (m + 1 + 1) (es_ox (some b)) (nI i) := by
          intro post hp hP
          exact ⟨v1, br_f x1 ⟨vx, br_f (by rw [cx]; exact ht) (br_f n4 (hP _ (br_t rfl (nm_r (nI_1 _) (aK post hp)))))⟩⟩
        have xN : ∀ post : Int32 → Prop, post (es_ox oN) → (∀ P : Int32 → Prop, P 1 → wpX_isDueBefore P (x_records, x_removedCount, x_flushed, x_drafted, x_height, x_time, x_foundAt, x_recordStream, x_recordType, x_recordVersion, x_recordValue, x_originProjection, x_originPosition, x_originInstruction, x_joined, x_removed, x_eventCount, x_cutLevel, x_draftType, x_draftValue, x_ops, x_arguments, x_programLength, x_states, x_noted, x_stack, x_metHeight, x_groupType, x_cursor, x_keptCursor, x_parked, x_rowCount, x_rowPosition, x_rowTimes, x_rowDue) (nI (18 * g) + nI i) (nI (18 * g) + es_ox (some b))) → wX_firstDue_18 post (nI (3 * g)) (nI (18 * g)) x_records x_removedCount x_flushed x_drafted x_height x_time x_foundAt x_recordStream x_recordType x_recordVersion x_recordValue x_originProjection x_originPosition x_originInstruction x_joined x_removed x_eventCount x_cutLevel x_draftType x_draftValue x_ops x_arguments x_programLength x_states x_noted x_stack x_metHeight x_groupType x_cursor x_keptCursor x_parked x_rowCount x_rowPosition x_rowTimes x_rowDue (m + 1 + 1) (es_ox (some b)) (nI i) := by
          intro post hp hP
          exact ⟨v1, br_f x1 ⟨vx, br_f (by rw [cx]; exact ht) (br_f n4 (hP _ (br_f (by decide) (nm_r (nI_1 _) (aN post hp)))))⟩⟩
        by_cases e : x_rowDue (18 * g + i) = x_rowDue (18 * g + b)
        · by_cases w : x_rowPosition (18 * g + b) ≤ x_rowPosition (18 * g + i)
          · exact ⟨oK, gK, fun post hp => xK post hp (fun P h => xs P (by rw [if_pos e, if_pos w]; exact h)), fun post hp => yK post hp (fun z => es_ltne z e) (fun _ => w)⟩
          · exact ⟨oN, gN, fun post hp => xN post hp (fun P h => xs P (by rw [if_pos e, if_neg w]; exact h)), fun post hp => yN post hp (Or.inr ⟨e, w⟩)⟩
        · by_cases w : x_rowDue (18 * g + b) ≤ x_rowDue (18 * g + i)
          · exact ⟨oK, gK, fun post hp => xK post hp (fun P h => xs P (by rw [if_neg e, if_pos w]; exact h)), fun post hp => yK post hp (fun z => es_ltirr (es_ltle z w)) (fun z => absurd z e)⟩
          · exact ⟨oN, gN, fun post hp => xN post hp (fun P h => xs P (by rw [if_neg e, if_neg w]; exact h)), fun post hp => yN post hp (Or.inl (es_nle w))⟩
theorem em_due (_ : es_Q c f d L q (x_records, x_removedCount, x_flushed, x_drafted, x_height, x_time, x_foundAt, x_recordStream, x_recordType, x_recordVersion, x_recordValue, x_originProjection, x_originPosition, x_originInstruction, x_joined, x_removed, x_eventCount, x_cutLevel, x_draftType, x_draftValue, x_ops, x_arguments, x_programLength, x_states, x_noted, x_stack, x_metHeight, x_groupType, x_cursor, x_keptCursor, x_parked, x_rowCount, x_rowPosition, x_rowTimes, x_rowDue) (y_count, y_flushed, y_calls, y_drafted, y_top, x_time, y_isCut, y_removed, y_stream, y_type, y_from, y_by, y_value, y_version, y_on, y_call, y_draftType, y_draftValue, y_op, y_with, y_length, y_height, y_torn, y_stack, y_position, y_cells, y_noted, y_wanted, y_formed, y_cursor, y_parked, y_where, y_often, y_due, y_many, y_found)) (hg : g < 2) (h : es_Grp c f g nt nw nk u k x_cursor x_keptCursor x_rowCount x_rowPosition x_rowTimes x_rowDue y_cursor y_many y_where y_often y_due) :
    ∃ o : Option Nat, (∀ b, o = some b → b < nt) ∧ (∀ post : Int32 → Prop, post (es_ox o) → wpX_firstDue post (x_records, x_removedCount, x_flushed, x_drafted, x_height, x_time, x_foundAt, x_recordStream, x_recordType, x_recordVersion, x_recordValue, x_originProjection, x_originPosition, x_originInstruction, x_joined, x_removed, x_eventCount, x_cutLevel, x_draftType, x_draftValue, x_ops, x_arguments, x_programLength, x_states, x_noted, x_stack, x_metHeight, x_groupType, x_cursor, x_keptCursor, x_parked, x_rowCount, x_rowPosition, x_rowTimes, x_rowDue) (nI g)) ∧ (∀ post : Int32 → Prop, post (es_oy g o) → wpY_late post (y_count, y_flushed, y_calls, y_drafted, y_top, x_time, y_isCut, y_removed, y_stream, y_type, y_from, y_by, y_value, y_version, y_on, y_call, y_draftType, y_draftValue, y_op, y_with, y_length, y_height, y_torn, y_stack, y_position, y_cells, y_noted, y_wanted, y_formed, y_cursor, y_parked, y_where, y_often, y_due, y_many, y_found) (nI g)) := by
  obtain ⟨a0, a1, a2, a3, a4, a5⟩ := h
  obtain ⟨o, h1, h2, h3⟩ := em_due1 (x_time := x_time) hg (by omega) a2.1 a2.2.1 (fun i hi => (a3 i hi).2.1) a4 nt 0 (by omega) none (fun b e => by cases e)
  refine ⟨o, h1, fun post hp => nm_r (es_g3 g) (nm_r (e' := nI (18 * g)) (by rw [es_6, show 6 * (3 * g) = 18 * g by omega]) ⟨_, h2 post hp⟩), fun post hp => nm_r (es_8 g) ⟨_, h3 post hp⟩⟩
end
end
section
section
/-! append and cut -/
variable {x_records x_removedCount x_flushed x_drafted x_height x_time x_foundAt : Int32} {x_recordStream x_recordType x_recordVersion x_recordValue x_originProjection x_originPosition x_originInstruction x_joined x_removed x_eventCount x_cutLevel x_draftType x_draftValue x_ops x_arguments x_programLength x_states x_noted x_stack x_metHeight x_groupType x_cursor x_keptCursor x_parked x_rowCount x_rowPosition x_rowTimes x_rowDue : Nat → Int32} {y_count y_flushed y_calls y_drafted y_top y_time : Int32} {y_isCut y_removed y_stream y_type y_from y_by y_value y_version y_on y_call y_draftType y_draftValue y_op y_with y_length y_height y_torn y_stack y_position y_cells y_noted y_wanted y_formed y_cursor y_parked y_where y_often y_due y_many y_found : Nat → Int32} {c f q : Nat} {cut rm str ty fr byi val ver onn call oi jn ec cl : Nat → Int32} {d : Nat} {L : Nat → Nat}
/-- an event comes, on both sides: the log's arrays after it -/
theorem es_Q_ev {s t : Nat} {v : Int32} {jv : Int32} (H : es_Q c f d L q (nI c, x_removedCount, nI f, x_drafted, x_height, x_time, x_foundAt, str, es_T cut ty, es_V cut ver val, es_W cut val, fr, onn, oi, jn, rm, ec, cl, x_draftType, x_draftValue, x_ops, x_arguments, x_programLength, x_states, x_noted, x_stack, x_metHeight, x_groupType, x_cursor, x_keptCursor, x_parked, x_rowCount, x_rowPosition, x_rowTimes, x_rowDue) (nI c, nI f, nI q, y_drafted, y_top, y_time, cut, rm, str, ty, fr, byi, val, ver, onn, call, y_draftType, y_draftValue, y_op, y_with, y_length, y_height, y_torn, y_stack, y_position, y_cells, y_noted, y_wanted, y_formed, y_cursor, y_parked, y_where, y_often, y_due, y_many, y_found))
    (hc : c < 2000) (hr : c - es_rc rm c < 40) (hs : s < 5) (ht : t < 8) (hj : 0 < c → (jv = 0 ↔ ¬ call (c - 1) = nI q)) :
    es_Q (c + 1) f d L q
      (nI (c + 1), x_removedCount, nI f, x_drafted, x_height, x_time, x_foundAt, upd str c (nI s), upd (es_T cut ty) c (nI t), upd (es_V cut ver val) c (nI (es_ev cut str (nI s) c)), upd (es_W cut val) c v, upd fr c (-1), upd onn c (-1), upd oi c (-1), upd jn c jv, rm, upd ec s (ec s + 1), cl, x_draftType, x_draftValue, x_ops, x_arguments, x_programLength, x_states, x_noted, x_stack, x_metHeight, x_groupType, x_cursor, x_keptCursor, x_parked, x_rowCount, x_rowPosition, x_rowTimes, x_rowDue)
      (nI (c + 1), nI f, nI q, y_drafted, y_top, y_time, upd cut c 0, rm, upd str c (nI s), upd ty c (nI t), upd fr c (-1), byi, upd val c v, upd ver c (nI (es_ev cut str (nI s) c)), upd onn c (-1), upd call c (nI q), y_draftType, y_draftValue, y_op, y_with, y_length, y_height, y_torn, y_stack, y_position, y_cells, y_noted, y_wanted, y_formed, y_cursor, y_parked, y_where, y_often, y_due, y_many, y_found) := by
  have := es_Q_add (b := 0) (v := v) (fo := -1) (ov := -1) (bv := byi c) (ev := -1) (jv := jv) (byi' := byi) (ec' := upd ec s (ec s + 1)) (cl' := cl) H hc hr hs ht (fun _ _ => rfl) rfl (Or.inl rfl) hj ?_ ?_
  · simpa only [if_true] using this
  · intro s' hs'
    by_cases e : s' = s
    · subst e; rw [pk_us, if_pos ⟨rfl, rfl⟩]
    · rw [pk_un e, if_neg (fun z => e z.2)]
  · intro s' hs'
    rw [if_neg (fun z => z.1 rfl)]
theorem es_Tu0 {t : Int32} : es_T (upd cut c 0) (upd ty c t) = upd (es_T cut ty) c t := by rw [es_Tu, if_pos rfl]
theorem es_Vu0 {w v : Int32} : es_V (upd cut c 0) (upd ver c w) (upd val c v) = upd (es_V cut ver val) c w := by rw [es_Vu, if_pos rfl]
theorem es_Wu0 {v : Int32} : es_W (upd cut c 0) (upd val c v) = upd (es_W cut val) c v := by rw [es_Wu, if_pos rfl]
theorem em_app {m : Nat} : ∀ {i c0 s c : Nat} {cut str ty fr val ver onn call oi jn ec : Nat → Int32}, s < 5 → i + m = d → c = c0 + i → c0 + d ≤ 2000 → c + m - es_rc rm c ≤ 40 → (i = 0 → 0 < c → ¬ call (c - 1) = nI q) → (0 < i → call (c - 1) = nI q) →
    es_Q c f d L q (nI c, x_removedCount, nI f, nI d, x_height, x_time, x_foundAt, str, es_T cut ty, es_V cut ver val, es_W cut val, fr, onn, oi, jn, rm, ec, cl, y_draftType, y_draftValue, x_ops, x_arguments, x_programLength, x_states, x_noted, x_stack, x_metHeight, x_groupType, x_cursor, x_keptCursor, x_parked, x_rowCount, x_rowPosition, x_rowTimes, x_rowDue) (nI c, nI f, nI q, nI d, y_top, y_time, cut, rm, str, ty, fr, byi, val, ver, onn, call, y_draftType, y_draftValue, y_op, y_with, y_length, y_height, y_torn, y_stack, y_position, y_cells, y_noted, y_wanted, y_formed, y_cursor, y_parked, y_where, y_often, y_due, y_many, y_found) →
    ∃ (u' : SX) (v' : SY), es_Q (c0 + d) f 0 L q u' v' ∧
      (∀ post : Int32 → SX → Prop, post (nI c0) u' → wX_append_60 post (nI s) (nI c0) (m + 1) (nI i) (nI c) x_removedCount (nI f) (nI d) x_height x_time x_foundAt str (es_T cut ty) (es_V cut ver val) (es_W cut val) fr onn oi jn rm ec cl y_draftType y_draftValue x_ops x_arguments x_programLength x_states x_noted x_stack x_metHeight x_groupType x_cursor x_keptCursor x_parked x_rowCount x_rowPosition x_rowTimes x_rowDue) ∧
      (∀ post : Int32 → SY → Prop, post (nI c0) v' → wY_append_91 post (nI s) (nI c0) (m + 1) (nI i) (nI c) (nI f) (nI q) (nI d) y_top y_time cut rm str ty fr byi val ver onn call y_draftType y_draftValue y_op y_with y_length y_height y_torn y_stack y_position y_cells y_noted y_wanted y_formed y_cursor y_parked y_where y_often y_due y_many y_found) := by
  induction m with
  | zero =>
    intro i c0 s c cut str ty fr val ver onn call oi jn ec hs hi hc hroom hr hj0 hj1 H
    have e : c = c0 + d := by omega
    refine ⟨(nI c, x_removedCount, nI f, 0, x_height, x_time, x_foundAt, str, es_T cut ty, es_V cut ver val, es_W cut val, fr, onn, oi, jn, rm, ec, cl, y_draftType, y_draftValue, x_ops, x_arguments, x_programLength, x_states, x_noted, x_stack, x_metHeight, x_groupType, x_cursor, x_keptCursor, x_parked, x_rowCount, x_rowPosition, x_rowTimes, x_rowDue), (nI c, nI f, nI q, 0, y_top, y_time, cut, rm, str, ty, fr, byi, val, ver, onn, call, y_draftType, y_draftValue, y_op, y_with, y_length, y_height, y_torn, y_stack, y_position, y_cells, y_noted, y_wanted, y_formed, y_cursor, y_parked, y_where, y_often, y_due, y_many, y_found), ?_, fun post hp => br_t (nI_le (by omega) (by have := H.2.1.2.2.1; omega)) hp, fun post hp => br_t (nI_le (by omega) (by have := H.2.1.2.2.1; omega)) hp⟩
    rw [← e]
    exact ⟨H.1, ⟨rfl, rfl, by omega, rfl, rfl, H.2.1.2.2.2.2.2⟩, H.2.2⟩
  | succ m ih =>
    intro i c0 s c cut str ty fr val ver onn call oi jn ec hs hi hc hroom hr hj0 hj1 H
    have hd4 : d ≤ 4 := H.2.1.2.2.1
    obtain ⟨t, ht, et⟩ := H.2.1.2.2.2.2.2 i
    have hl := H.1.2.2.2.2.2.2.2.2.2.2.2.2.2
    have h4 : rm c = 0 := (hl.2.2.2.2.1 c).2 hl.1.2.1
    have hec : ec s = nI (es_ev cut str (nI s) c) := hl.2.2.2.2.2.1 s hs
    have hrc := es_rc_le rm c
    have H2 := es_Q_ev (v := y_draftValue i) (jv := if i = 0 then 0 else 1) H (by omega) (by omega) hs ht (fun h0 => by
      by_cases z : i = 0
      · rw [if_pos z]; exact ⟨fun _ => hj0 z h0, fun _ => rfl⟩
      · rw [if_neg z]; exact ⟨fun w => absurd w (by decide), fun w => absurd (hj1 (by omega)) w⟩)
    rw [← es_Tu0, ← es_Vu0 (v := y_draftValue i), ← es_Wu0] at H2
    obtain ⟨u', v', hQ, hX, hY⟩ := ih (i := i + 1) (c0 := c0) (s := s) (c := c + 1) (call := upd call c (nI q)) hs (by omega) (by omega) hroom (by rw [es_rc_add h4]; omega) (fun z => by omega) (fun _ => by rw [show c + 1 - 1 = c by omega, pk_us]) H2
    have ci : (nI i).toNatClampNeg = i := nI_clamp (by omega)
    have cs : (nI s).toNatClampNeg = s := nI_clamp (by omega)
    have vi : vp_in (nI i) 4 := vp_in_nI (by omega) (by decide)
    have vs : vp_in (nI s) 5 := vp_in_nI (by omega) (by decide)
    have vc : vp_in (nI c0 + nI i) 2000 := by rw [nI_add]; exact vp_in_nI (by omega) (by decide)
    have cc : (nI c0 + nI i).toNatClampNeg = c := by rw [nI_add, nI_clamp (by omega)]; omega
    refine ⟨u', v', hQ, fun post hp => br_f (nI_ge (by omega) (by omega)) ⟨vi, vs, vi, ?_⟩, fun post hp => br_f (nI_ge (by omega) (by omega)) ⟨vi, vi, ?_⟩⟩
    · rw [ci, cs, et, hec]
      refine ex_addE (by omega) hs ht ?_
      have hx := hX post hp
      rw [es_Tu0, es_Vu0, es_Wu0] at hx
      by_cases z : i = 0
      · rw [if_pos z] at hx
        refine br_t (by rw [z]; exact Int32.le_refl 0) ⟨vc, nm_r (e' := upd jn c 0) (by rw [cc, es_nb0, es_uu]) (nm_r (nI_1 _) ?_)⟩
        rw [hec] at hx ⊢
        exact hx
      · rw [if_neg z] at hx
        refine br_f (nI_nle (by omega) (by omega)) ⟨vc, nm_r (e' := upd jn c 1) (by rw [cc, es_nb1, es_uu]) (nm_r (nI_1 _) ?_)⟩
        rw [hec] at hx ⊢
        exact hx
    · rw [ci, et]
      exact ey_add (by omega) hs ht es_nb0 h4 (nm_r (nI_1 _) (hY post hp))
theorem i_vc_append {k : Nat} {u : SX} {v : SY} (I : i_Rel k u v) (hk : k + 4 ≤ 2048) (v1 : Int32) (v2 : Int32) : wpX_append (fun r u' => wpY_append (fun r' v' => r' = r ∧ i_Rel (k + 4) u' v') v v1 v2) u v1 v2 := by
  obtain ⟨x_records, x_removedCount, x_flushed, x_drafted, x_height, x_time, x_foundAt, x_recordStream, x_recordType, x_recordVersion, x_recordValue, x_originProjection, x_originPosition, x_originInstruction, x_joined, x_removed, x_eventCount, x_cutLevel, x_draftType, x_draftValue, x_ops, x_arguments, x_programLength, x_states, x_noted, x_stack, x_metHeight, x_groupType, x_cursor, x_keptCursor, x_parked, x_rowCount, x_rowPosition, x_rowTimes, x_rowDue⟩ := u
  obtain ⟨y_count, y_flushed, y_calls, y_drafted, y_top, y_time, y_isCut, y_removed, y_stream, y_type, y_from, y_by, y_value, y_version, y_on, y_call, y_draftType, y_draftValue, y_op, y_with, y_length, y_height, y_torn, y_stack, y_position, y_cells, y_noted, y_wanted, y_formed, y_cursor, y_parked, y_where, y_often, y_due, y_many, y_found⟩ := v
  have J := i_up I
  obtain ⟨q, hq, c, f, d, L, hL, hD, hP, hS, hG, hF⟩ := I
  obtain ⟨rfl, rfl, rfl, rfl, rfl, rfl, rfl, rfl, rfl, rfl, rfl, rfl, rfl, hl⟩ := hL
  obtain ⟨rfl, rfl, hd, rfl, rfl, hdt⟩ := hD
  dsimp only [wpX_append]
  rcases es_rg v1 5 (by decide) with h | ⟨s, hs, rfl⟩
  · refine ex_isStream0 h (br_t rfl ?_)
    dsimp only [wpY_append]
    exact ey_outT 5 rfl h (br_f (by decide) ⟨rfl, J⟩)
  · refine ex_isStream1 hs (br_f (by decide) ?_)
    by_cases d0 : d = 0
    · subst d0
      refine br_t rfl ?_
      dsimp only [wpY_append]
      exact ey_outF 5 s rfl (by decide) hs (br_t rfl (br_t rfl ⟨rfl, J⟩))
    · have hd0 : ¬ nI d = 0 := fun z => d0 ((es_eq0 (by omega)).mp z)
      have hc := hl.1.1
      have hrc := es_rc_le y_removed c
      have hec : x_eventCount s = nI (es_ev y_isCut y_stream (nI s) c) := hl.2.2.2.2.2.1 s hs
      -- from the check of room on
      have go : ∀ (WY : (Int32 → SY → Prop) → Prop), (∀ P : Int32 → SY → Prop, wY_append_41 P (nI s) (nI c) (nI f) (nI q) (nI d) y_top y_time y_isCut y_removed y_stream y_type y_from y_by y_value y_version y_on y_call y_draftType y_draftValue y_op y_with y_length y_height y_torn y_stack y_position y_cells y_noted y_wanted y_formed y_cursor y_parked y_where y_often y_due y_many y_found → WY P) →
          wX_append_38 (fun r u' => WY (fun r' v' => r' = r ∧ i_Rel (k + 4) u' v')) (nI s) (nI c) (nI (es_rc y_removed c)) (nI f) (nI d) x_height x_time x_foundAt y_stream (es_T y_isCut y_type) (es_V y_isCut y_version y_value) (es_W y_isCut y_value) y_from y_on x_originInstruction x_joined y_removed x_eventCount x_cutLevel y_draftType y_draftValue x_ops x_arguments x_programLength x_states x_noted x_stack x_metHeight x_groupType x_cursor x_keptCursor x_parked x_rowCount x_rowPosition x_rowTimes x_rowDue := by
        intro WY hW
        by_cases room : c - es_rc y_removed c + d ≤ 40 ∧ c + d ≤ 2000
        · refine ex_hasRoom1 hc room.1 room.2 (br_f (by decide) ?_)
          obtain ⟨u', v', hQ, hX, hY⟩ := em_app (m := d) (i := 0) (c0 := c) (c := c) (s := s) (q := q + 1) hs (by omega) (by omega) room.2 (by omega) (fun _ h0 => (es_Log_fresh hl (by omega) h0).mp rfl) (fun z => by omega) ⟨⟨rfl, rfl, rfl, rfl, rfl, rfl, rfl, rfl, rfl, rfl, rfl, rfl, rfl, es_Log_q hl (by omega)⟩, ⟨rfl, rfl, hd, rfl, rfl, hdt⟩, hP, hS, hG, hF⟩
          refine ⟨_, hX _ (hW _ ?_)⟩
          refine ey_there hc (br_f ?_ (br_t ?_ (nm_r (nI_1 _) ⟨_, hY _ ⟨rfl, q + 1, by omega, c + d, f, 0, L, hQ⟩⟩)))
          · rw [nI_add]; exact nI_nlt (a := 40) room.1 (by decide)
          · rw [nI_add]; exact nI_le (b := 2000) room.2 (by decide)
        · refine ex_hasRoom0 hc hd room (br_t rfl (hW _ ?_))
          by_cases z : c - es_rc y_removed c + d ≤ 40
          · refine ey_there hc (br_f ?_ (br_f ?_ ⟨rfl, J⟩))
            · rw [nI_add]; exact nI_nlt (a := 40) z (by decide)
            · rw [nI_add]; exact nI_ge (a := 2000) (by omega) (by omega)
          · refine ey_there hc (br_t ?_ ⟨rfl, J⟩)
            rw [nI_add]; exact nI_lt (a := 40) (by omega) (by omega)
      refine br_f hd0 ?_
      by_cases z2 : v2 = -2
      · exact br_t z2 (go (fun P => wpY_append P (nI c, nI f, nI q, nI d, y_top, y_time, y_isCut, y_removed, y_stream, y_type, y_from, y_by, y_value, y_version, y_on, y_call, y_draftType, y_draftValue, y_op, y_with, y_length, y_height, y_torn, y_stack, y_position, y_cells, y_noted, y_wanted, y_formed, y_cursor, y_parked, y_where, y_often, y_due, y_many, y_found) (nI s) v2) (fun P h => by dsimp only [wpY_append]; exact ey_outF 5 s rfl (by decide) hs (br_t rfl (br_f hd0 (br_t z2 h)))))
      · refine br_f z2 ⟨vp_in_nI hs (by decide), ?_⟩
        rw [nI_clamp (by omega), hec]
        refine br_c (fun z3 => ?_) (fun z3 => ?_)
        · exact go (fun P => wpY_append P (nI c, nI f, nI q, nI d, y_top, y_time, y_isCut, y_removed, y_stream, y_type, y_from, y_by, y_value, y_version, y_on, y_call, y_draftType, y_draftValue, y_op, y_with, y_length, y_height, y_torn, y_stack, y_position, y_cells, y_noted, y_wanted, y_formed, y_cursor, y_parked, y_where, y_often, y_due, y_many, y_found) (nI s) v2) (fun P h => by dsimp only [wpY_append]; exact ey_outF 5 s rfl (by decide) hs (br_t rfl (br_f hd0 (br_f z2 (ey_events hc (br_t z3 h))))))
        · dsimp only [wpY_append]
          exact ey_outF 5 s rfl (by decide) hs (br_t rfl (br_f hd0 (br_f z2 (ey_events hc (br_f z3 ⟨rfl, J⟩)))))
theorem i_vc_cut {k : Nat} {u : SX} {v : SY} (I : i_Rel k u v) (hk : k + 4 ≤ 2048) (v1 : Int32) (v2 : Int32) : wpX_cut (fun r u' => wpY_cut (fun r' v' => r' = r ∧ i_Rel (k + 4) u' v') v v1 v2) u v1 v2 := by
  obtain ⟨x_records, x_removedCount, x_flushed, x_drafted, x_height, x_time, x_foundAt, x_recordStream, x_recordType, x_recordVersion, x_recordValue, x_originProjection, x_originPosition, x_originInstruction, x_joined, x_removed, x_eventCount, x_cutLevel, x_draftType, x_draftValue, x_ops, x_arguments, x_programLength, x_states, x_noted, x_stack, x_metHeight, x_groupType, x_cursor, x_keptCursor, x_parked, x_rowCount, x_rowPosition, x_rowTimes, x_rowDue⟩ := u
  obtain ⟨y_count, y_flushed, y_calls, y_drafted, y_top, y_time, y_isCut, y_removed, y_stream, y_type, y_from, y_by, y_value, y_version, y_on, y_call, y_draftType, y_draftValue, y_op, y_with, y_length, y_height, y_torn, y_stack, y_position, y_cells, y_noted, y_wanted, y_formed, y_cursor, y_parked, y_where, y_often, y_due, y_many, y_found⟩ := v
  have J := i_up I
  obtain ⟨q, hq, c, f, d, L, hL, hD, hP, hS, hG, hF⟩ := I
  obtain ⟨rfl, rfl, rfl, rfl, rfl, rfl, rfl, rfl, rfl, rfl, rfl, rfl, rfl, hl⟩ := hL
  dsimp only [wpX_cut, wpY_cut]
  rcases es_rg v1 5 (by decide) with h | ⟨s, hs, rfl⟩
  · exact ex_isStream0 h (br_t rfl (ey_outT 5 rfl h (br_f (by decide) ⟨rfl, J⟩)))
  · refine ex_isStream1 hs (br_f (by decide) ?_)
    have hc := hl.1.1
    have hrc := es_rc_le y_removed c
    have hec : x_eventCount s = nI (es_ev y_isCut y_stream (nI s) c) := hl.2.2.2.2.2.1 s hs
    by_cases z : v2 < 0
    · exact br_t z (ey_outF 5 s rfl (by decide) hs (br_t rfl (br_t z ⟨rfl, J⟩)))
    · refine br_f z ⟨vp_in_nI hs (by decide), ?_⟩
      rw [nI_clamp (by omega), hec]
      refine br_c (fun z3 => ?_) (fun z3 => ?_)
      · have h4 : y_removed c = 0 := (hl.2.2.2.2.1 c).2 hl.1.2.1
        by_cases room : c - es_rc y_removed c + 1 ≤ 40 ∧ c + 1 ≤ 2000
        · refine ex_hasRoom1 (n := 1) hc room.1 room.2 (br_f (by decide) ?_)
          refine ex_addC (by omega) hs (fun cl' hcl => ?_)
          have hQ0 : es_Q c f d L (q + 1) (nI c, nI (es_rc y_removed c), nI f, x_drafted, x_height, x_time, x_foundAt, y_stream, es_T y_isCut y_type, es_V y_isCut y_version y_value, es_W y_isCut y_value, y_from, y_on, x_originInstruction, x_joined, y_removed, x_eventCount, x_cutLevel, x_draftType, x_draftValue, x_ops, x_arguments, x_programLength, x_states, x_noted, x_stack, x_metHeight, x_groupType, x_cursor, x_keptCursor, x_parked, x_rowCount, x_rowPosition, x_rowTimes, x_rowDue) (nI c, nI f, nI (q + 1), y_drafted, y_top, y_time, y_isCut, y_removed, y_stream, y_type, y_from, y_by, y_value, y_version, y_on, y_call, y_draftType, y_draftValue, y_op, y_with, y_length, y_height, y_torn, y_stack, y_position, y_cells, y_noted, y_wanted, y_formed, y_cursor, y_parked, y_where, y_often, y_due, y_many, y_found) := ⟨⟨rfl, rfl, rfl, rfl, rfl, rfl, rfl, rfl, rfl, rfl, rfl, rfl, rfl, es_Log_q hl (by omega)⟩, hD, hP, hS, hG, hF⟩
          have hQ := es_Q_add (b := 1) (v := v2) (fo := -1) (ov := -1) (bv := y_by c) (ev := -1) (jv := 0) (byi' := y_by) (s := s) (t := 0) (ec' := x_eventCount) (cl' := cl') (q := q + 1) (c := c) (f := f) (d := d) (L := L)
            hQ0 (by omega) (by omega) hs (by omega) (fun _ _ => rfl) rfl (Or.inl rfl) (fun h0 => es_Log_fresh hl (by omega) h0)
            (fun s' hs' => by rw [if_neg (fun w => absurd w.1 (by decide))])
            (fun s' hs' => by
              rw [hcl s']
              by_cases w : s' = s ∧ x_cutLevel s' < v2
              · rw [if_pos w, if_pos ⟨by decide, w⟩]
              · rw [if_neg w, if_neg (fun y => w y.2)])
          have e0 : nI (c + 1) - 1 = nI c := nI_pred c
          dsimp only
          rw [e0]
          refine ey_outF 5 s rfl (by decide) hs (br_t rfl (br_f z (ey_events hc (br_t z3 (ey_there hc (br_f ?_ (br_f ?_ (nm_r (nI_1 _) (ey_add (t := 0) (by omega) hs (by omega) es_nb1 h4 ⟨rfl, q + 1, by omega, c + 1, f, d, L, ?_⟩)))))))))
          · exact fun w => by have := es_inj (b := 40) w (by omega) (by decide); omega
          · exact fun w => by have := es_inj (b := 2000) w (by omega) (by decide); omega
          · simpa only [show ¬ (1 : Int32) = 0 by decide, if_false] using hQ
        · refine ex_hasRoom0 (n := 1) hc (by omega) room (br_t rfl ?_)
          by_cases w : c - es_rc y_removed c = 40
          · exact ey_outF 5 s rfl (by decide) hs (br_t rfl (br_f z (ey_events hc (br_t z3 (ey_there hc (br_t (by rw [w]; rfl) ⟨rfl, J⟩))))))
          · have e2 : c = 2000 := by have := hl.1.2.2; omega
            refine ey_outF 5 s rfl (by decide) hs (br_t rfl (br_f z (ey_events hc (br_t z3 (ey_there hc (br_f ?_ (br_t (by rw [e2]; rfl) ⟨rfl, J⟩)))))))
            exact fun y => w (es_inj (b := 40) y (by omega) (by decide))
      · exact ey_outF 5 s rfl (by decide) hs (br_t rfl (br_f z (ey_events hc (br_f z3 ⟨rfl, J⟩))))
end
end
section
section
/-! code, drop, position, cell, found, group -/
variable {x_records x_removedCount x_flushed x_drafted x_height x_time x_foundAt : Int32} {x_recordStream x_recordType x_recordVersion x_recordValue x_originProjection x_originPosition x_originInstruction x_joined x_removed x_eventCount x_cutLevel x_draftType x_draftValue x_ops x_arguments x_programLength x_states x_noted x_stack x_metHeight x_groupType x_cursor x_keptCursor x_parked x_rowCount x_rowPosition x_rowTimes x_rowDue : Nat → Int32} {y_count y_flushed y_calls y_drafted y_top y_time : Int32} {y_isCut y_removed y_stream y_type y_from y_by y_value y_version y_on y_call y_draftType y_draftValue y_op y_with y_length y_height y_torn y_stack y_position y_cells y_noted y_wanted y_formed y_cursor y_parked y_where y_often y_due y_many y_found : Nat → Int32} {c f q : Nat} {cut rm str ty fr byi val ver onn call oi jn ec cl : Nat → Int32} {d : Nat} {L : Nat → Nat} {post : Int32 → Prop}
theorem ex_stand (p : Int32) (h1 : (p < 0 ∨ nI 3 ≤ p) → post (-1)) (h2 : ∀ j, j < 3 → p = nI j → x_programLength j = 0 → post (-4)) (h3 : ∀ j, j < 3 → p = nI j → ¬ x_programLength j = 0 → post 0) : wpX_standing post (x_records, x_removedCount, x_flushed, x_drafted, x_height, x_time, x_foundAt, x_recordStream, x_recordType, x_recordVersion, x_recordValue, x_originProjection, x_originPosition, x_originInstruction, x_joined, x_removed, x_eventCount, x_cutLevel, x_draftType, x_draftValue, x_ops, x_arguments, x_programLength, x_states, x_noted, x_stack, x_metHeight, x_groupType, x_cursor, x_keptCursor, x_parked, x_rowCount, x_rowPosition, x_rowTimes, x_rowDue) p := by
  dsimp only [wpX_standing]
  rcases es_rg p 3 (by decide) with h | ⟨j, hj, rfl⟩
  · exact ex_isProj0 h (br_t rfl (h1 h))
  · refine ex_isProj1 hj (br_f (by decide) ⟨vp_in_nI (by omega) (by decide), ?_⟩)
    rw [nI_clamp (by omega)]
    exact br_c (fun z => h2 j hj rfl z) (fun z => h3 j hj rfl z)
theorem ey_stand (p : Int32) (h1 : (p < 0 ∨ nI 3 ≤ p) → post (-1)) (h2 : ∀ j, j < 3 → p = nI j → y_length j = 0 → post (-4)) (h3 : ∀ j, j < 3 → p = nI j → ¬ y_length j = 0 → post 0) : wpY_without post (y_count, y_flushed, y_calls, y_drafted, y_top, y_time, y_isCut, y_removed, y_stream, y_type, y_from, y_by, y_value, y_version, y_on, y_call, y_draftType, y_draftValue, y_op, y_with, y_length, y_height, y_torn, y_stack, y_position, y_cells, y_noted, y_wanted, y_formed, y_cursor, y_parked, y_where, y_often, y_due, y_many, y_found) p := by
  dsimp only [wpY_without]
  rcases es_rg p 3 (by decide) with h | ⟨j, hj, rfl⟩
  · exact ey_outT 3 rfl h (br_f (by decide) (h1 h))
  · refine ey_outF 3 j rfl (by decide) hj (br_t rfl ⟨vp_in_nI (by omega) (by decide), ?_⟩)
    rw [nI_clamp (by omega)]
    exact br_c (fun z => h2 j hj rfl z) (fun z => h3 j hj rfl z)
/-- both stand alike -/
theorem em_stand (p : Int32) :
    ∃ r : Int32, (∀ post : Int32 → Prop, post r → wpX_standing post (x_records, x_removedCount, x_flushed, x_drafted, x_height, x_time, x_foundAt, x_recordStream, x_recordType, x_recordVersion, x_recordValue, x_originProjection, x_originPosition, x_originInstruction, x_joined, x_removed, x_eventCount, x_cutLevel, x_draftType, x_draftValue, x_ops, x_arguments, y_length, x_states, x_noted, x_stack, x_metHeight, x_groupType, x_cursor, x_keptCursor, x_parked, x_rowCount, x_rowPosition, x_rowTimes, x_rowDue) p) ∧ (∀ post : Int32 → Prop, post r → wpY_without post (y_count, y_flushed, y_calls, y_drafted, y_top, y_time, y_isCut, y_removed, y_stream, y_type, y_from, y_by, y_value, y_version, y_on, y_call, y_draftType, y_draftValue, y_op, y_with, y_length, y_height, y_torn, y_stack, y_position, y_cells, y_noted, y_wanted, y_formed, y_cursor, y_parked, y_where, y_often, y_due, y_many, y_found) p) ∧ ((r = 0 ∧ ∃ j, j < 3 ∧ p = nI j ∧ ¬ y_length j = 0) ∨ ¬ r = 0) := by
  rcases es_rg p 3 (by decide) with h | ⟨j, hj, rfl⟩
  · refine ⟨-1, fun post hp => ex_stand p (fun _ => hp) ?_ ?_, fun post hp => ey_stand p (fun _ => hp) ?_ ?_, Or.inr (by decide)⟩
    all_goals
      intro j hj e
      subst e
      exfalso
      rcases h with h | h
      · exact nI_pos (by omega) h
      · exact nI_ge hj (by decide) h
  · by_cases z : y_length j = 0
    · refine ⟨-4, fun post hp => ?_, fun post hp => ?_, Or.inr (by decide)⟩
      · dsimp only [wpX_standing]
        refine ex_isProj1 hj (br_f (by decide) ⟨vp_in_nI (by omega) (by decide), ?_⟩)
        rw [nI_clamp (by omega)]
        exact br_t z hp
      · dsimp only [wpY_without]
        refine ey_outF 3 j rfl (by decide) hj (br_t rfl ⟨vp_in_nI (by omega) (by decide), ?_⟩)
        rw [nI_clamp (by omega)]
        exact br_t z hp
    · refine ⟨0, fun post hp => ?_, fun post hp => ?_, Or.inl ⟨rfl, j, hj, rfl, z⟩⟩
      · dsimp only [wpX_standing]
        refine ex_isProj1 hj (br_f (by decide) ⟨vp_in_nI (by omega) (by decide), ?_⟩)
        rw [nI_clamp (by omega)]
        exact br_f z hp
      · dsimp only [wpY_without]
        refine ey_outF 3 j rfl (by decide) hj (br_t rfl ⟨vp_in_nI (by omega) (by decide), ?_⟩)
        rw [nI_clamp (by omega)]
        exact br_f z hp
theorem es_OK_0 {op wi : Nat → Int32} : es_OK 0 op wi := ⟨fun _ => 0, rfl, fun i h hi => absurd hi (Nat.not_lt_zero _)⟩
theorem es_pos {n : Nat} (h : ¬ nI n = 0) : 0 < n := by
  rcases Nat.eq_zero_or_pos n with e | e
  · rw [e] at h; exact absurd rfl h
  · exact e
theorem i_vc_position {k : Nat} {u : SX} {v : SY} (I : i_Rel k u v) (hk : k + 4 ≤ 2048) (v1 : Int32) : wpX_position (fun r => wpY_position (fun r' => r' = r ∧ i_Rel (k + 4) u v) v v1) u v1 := by
  obtain ⟨x_records, x_removedCount, x_flushed, x_drafted, x_height, x_time, x_foundAt, x_recordStream, x_recordType, x_recordVersion, x_recordValue, x_originProjection, x_originPosition, x_originInstruction, x_joined, x_removed, x_eventCount, x_cutLevel, x_draftType, x_draftValue, x_ops, x_arguments, x_programLength, x_states, x_noted, x_stack, x_metHeight, x_groupType, x_cursor, x_keptCursor, x_parked, x_rowCount, x_rowPosition, x_rowTimes, x_rowDue⟩ := u
  obtain ⟨y_count, y_flushed, y_calls, y_drafted, y_top, y_time, y_isCut, y_removed, y_stream, y_type, y_from, y_by, y_value, y_version, y_on, y_call, y_draftType, y_draftValue, y_op, y_with, y_length, y_height, y_torn, y_stack, y_position, y_cells, y_noted, y_wanted, y_formed, y_cursor, y_parked, y_where, y_often, y_due, y_many, y_found⟩ := v
  have J := i_up I
  obtain ⟨q, hq, c, f, d, L, hL, hD, hP, hS, hG, hF⟩ := I
  obtain ⟨rfl, hlen, hop, ho3, hok⟩ := hP
  obtain ⟨r, hX, hY, hr⟩ := em_stand v1
  dsimp only [wpX_position]
  refine hX _ ?_
  rcases hr with ⟨rfl, p, hp, rfl, hz⟩ | hr
  · refine br_t rfl (ex_stateBase (m := 0) ⟨?_, ?_⟩)
    · exact pk_in (11 * (3 * 0 + p) + 10) 99 (by omega) (nI_add _ 10)
    · dsimp only [wpY_position]
      refine hY _ (br_t rfl ⟨vp_in_nI (by omega) (by decide), ?_, J⟩)
      rw [(hlen p).1] at hz
      obtain ⟨⟨⟨a, ha, e1, e2⟩, _⟩, _⟩ := hS p hp (es_pos hz)
      rw [nI_clamp (by omega), pk_cl (11 * p + 10) (by rw [show 11 * (3 * 0 + p) = 11 * p by omega]; exact nI_add _ 10) (by omega), e1, e2]
  · refine br_f hr ?_
    dsimp only [wpY_position]
    exact hY _ (br_f hr ⟨rfl, J⟩)
theorem i_vc_cell {k : Nat} {u : SX} {v : SY} (I : i_Rel k u v) (hk : k + 4 ≤ 2048) (v1 : Int32) (v2 : Int32) (v3 : Int32) : wpX_cell (fun r => wpY_cell (fun r' => r' = r ∧ i_Rel (k + 4) u v) v v1 v2 v3) u v1 v2 v3 := by
  obtain ⟨x_records, x_removedCount, x_flushed, x_drafted, x_height, x_time, x_foundAt, x_recordStream, x_recordType, x_recordVersion, x_recordValue, x_originProjection, x_originPosition, x_originInstruction, x_joined, x_removed, x_eventCount, x_cutLevel, x_draftType, x_draftValue, x_ops, x_arguments, x_programLength, x_states, x_noted, x_stack, x_metHeight, x_groupType, x_cursor, x_keptCursor, x_parked, x_rowCount, x_rowPosition, x_rowTimes, x_rowDue⟩ := u
  obtain ⟨y_count, y_flushed, y_calls, y_drafted, y_top, y_time, y_isCut, y_removed, y_stream, y_type, y_from, y_by, y_value, y_version, y_on, y_call, y_draftType, y_draftValue, y_op, y_with, y_length, y_height, y_torn, y_stack, y_position, y_cells, y_noted, y_wanted, y_formed, y_cursor, y_parked, y_where, y_often, y_due, y_many, y_found⟩ := v
  have J := i_up I
  obtain ⟨q, hq, c, f, d, L, hL, hD, hP, hS, hG, hF⟩ := I
  obtain ⟨rfl, hlen, hop, ho3, hok⟩ := hP
  obtain ⟨r, hX, hY, hr⟩ := em_stand v1
  dsimp only [wpX_cell]
  refine hX _ ?_
  dsimp only [wpY_cell]
  rcases hr with ⟨rfl, p, hp, rfl, hz⟩ | hr
  · refine br_t rfl ?_
    rcases es_rg v2 5 (by decide) with h | ⟨s, hs, rfl⟩
    · exact ex_isStream0 h (br_t rfl (hY _ (br_t rfl (ey_outT 5 rfl h (br_f (by decide) ⟨rfl, J⟩)))))
    · refine ex_isStream1 hs (br_f (by decide) ?_)
      rcases es_rg v3 2 (by decide) with h | ⟨e, he, rfl⟩
      · by_cases z : v3 < 0
        · exact br_t z (hY _ (br_t rfl (ey_outF 5 s rfl (by decide) hs (br_t rfl (ey_outT 2 rfl h (br_f (by decide) ⟨rfl, J⟩))))))
        · exact br_f z (br_f (fun w => es_ltirr (es_ltle w (h.resolve_left z))) (hY _ (br_t rfl (ey_outF 5 s rfl (by decide) hs (br_t rfl (ey_outT 2 rfl h (br_f (by decide) ⟨rfl, J⟩)))))))
      · refine br_f (nI_pos (by omega)) (br_t (nI_lt (b := 2) he (by decide)) (ex_stateBase (m := 0) ?_))
        have ex : nI (11 * (3 * 0 + p)) + nI s * 2 + nI e = nI (11 * p + (2 * s + e)) := by
          rw [show (2 : Int32) = nI 2 from rfl, pk_mul, nI_add, nI_add]; congr 1; omega
        have ey : 10 * nI p + 2 * nI s + nI e = nI (10 * p + (2 * s + e)) := by
          rw [show (2 : Int32) = nI 2 from rfl, show (10 : Int32) = nI 10 from rfl, pk_mul, pk_mul, nI_add, nI_add]; congr 1; omega
        rw [ex]
        refine ⟨vp_in_nI (by omega) (by decide), hY _ (br_t rfl (ey_outF 5 s rfl (by decide) hs (br_t rfl (ey_outF 2 e rfl (by decide) he (br_t rfl ?_)))))⟩
        rw [ey]
        refine ⟨vp_in_nI (by omega) (by decide), ?_, J⟩
        rw [(hlen p).1] at hz
        obtain ⟨⟨_, hk⟩, _⟩ := hS p hp (es_pos hz)
        rw [nI_clamp (by omega), nI_clamp (by omega)]
        exact (hk (2 * s + e) (by omega)).symm
  · exact br_f hr (hY _ (br_f hr ⟨rfl, J⟩))
theorem es_St_L {L' : Nat → Nat} {st xn po ce yn : Nat → Int32} (H : es_St c f L st xn po ce yn) (h : ∀ p, p < 3 → L' p = L p) : es_St c f L' st xn po ce yn := by
  intro p hp hl
  rw [h p hp] at hl
  exact H p hp hl
theorem es_OK_L {op wi : Nat → Int32} {p : Nat} {L' : Nat → Nat} (H : es_OK (L p) op wi) (h : L' p = L p) : es_OK (L' p) op wi := by
  rw [h]; exact H
theorem i_vc_drop {k : Nat} {u : SX} {v : SY} (I : i_Rel k u v) (hk : k + 4 ≤ 2048) (v1 : Int32) : wpX_drop (fun r u' => wpY_drop (fun r' v' => r' = r ∧ i_Rel (k + 4) u' v') v v1) u v1 := by
  obtain ⟨x_records, x_removedCount, x_flushed, x_drafted, x_height, x_time, x_foundAt, x_recordStream, x_recordType, x_recordVersion, x_recordValue, x_originProjection, x_originPosition, x_originInstruction, x_joined, x_removed, x_eventCount, x_cutLevel, x_draftType, x_draftValue, x_ops, x_arguments, x_programLength, x_states, x_noted, x_stack, x_metHeight, x_groupType, x_cursor, x_keptCursor, x_parked, x_rowCount, x_rowPosition, x_rowTimes, x_rowDue⟩ := u
  obtain ⟨y_count, y_flushed, y_calls, y_drafted, y_top, y_time, y_isCut, y_removed, y_stream, y_type, y_from, y_by, y_value, y_version, y_on, y_call, y_draftType, y_draftValue, y_op, y_with, y_length, y_height, y_torn, y_stack, y_position, y_cells, y_noted, y_wanted, y_formed, y_cursor, y_parked, y_where, y_often, y_due, y_many, y_found⟩ := v
  have J := i_up I
  obtain ⟨q, hq, c, f, d, L, hL, hD, hP, hS, hG, hF⟩ := I
  obtain ⟨rfl, hlen, hop, ho3, hok⟩ := hP
  obtain ⟨r, hX, hY, hr⟩ := em_stand v1
  dsimp only [wpX_drop]
  refine hX _ ?_
  dsimp only [wpY_drop]
  rcases hr with ⟨rfl, p, hp, rfl, hz⟩ | hr
  · refine br_t rfl ⟨vp_in_nI (by omega) (by decide), nm_e ⟨vp_in_nI (by omega) (by decide), nm_e (hY _ (br_t rfl ⟨vp_in_nI (by omega) (by decide), nm_e ⟨rfl, ?_⟩⟩))⟩⟩
    rw [nI_clamp (by omega), es_nb_0, es_nb0]
    refine ⟨q, by omega, c, f, d, fun m => if m = p then 0 else L m, hL, hD, ⟨rfl, fun m => ?_, fun m i hm hi => ?_, fun i hi => ?_, fun m hm => ?_⟩, fun m hm hl => ?_, hG, hF⟩
    · by_cases e : m = p
      · rw [e, pk_us]; simp only [if_pos]; exact ⟨rfl, Nat.zero_le 14⟩
      · rw [pk_un e]; simp only [if_neg e]; exact hlen m
    · by_cases e : m = p
      · simp only [if_pos e] at hi; exact absurd hi (Nat.not_lt_zero _)
      · simp only [if_neg e] at hi; exact hop m i hm hi
    · simp only [if_neg (show ¬ 3 = p by omega)] at hi; exact ho3 i hi
    · by_cases e : m = p
      · simp only [if_pos e]; exact es_OK_0
      · simp only [if_neg e]; exact hok m hm
    · by_cases e : m = p
      · simp only [if_pos e] at hl; exact absurd hl (Nat.lt_irrefl 0)
      · simp only [if_neg e] at hl
        have h := hS m hm hl
        rw [pk_un e]
        exact h
  · exact br_f hr (hY _ (br_f hr ⟨rfl, J⟩))
theorem i_vc_code {k : Nat} {u : SX} {v : SY} (I : i_Rel k u v) (hk : k + 4 ≤ 2048) (v1 : Int32) (v2 : Int32) : wpX_code (fun r u' => wpY_code (fun r' v' => r' = r ∧ i_Rel (k + 4) u' v') v v1 v2) u v1 v2 := by
  obtain ⟨x_records, x_removedCount, x_flushed, x_drafted, x_height, x_time, x_foundAt, x_recordStream, x_recordType, x_recordVersion, x_recordValue, x_originProjection, x_originPosition, x_originInstruction, x_joined, x_removed, x_eventCount, x_cutLevel, x_draftType, x_draftValue, x_ops, x_arguments, x_programLength, x_states, x_noted, x_stack, x_metHeight, x_groupType, x_cursor, x_keptCursor, x_parked, x_rowCount, x_rowPosition, x_rowTimes, x_rowDue⟩ := u
  obtain ⟨y_count, y_flushed, y_calls, y_drafted, y_top, y_time, y_isCut, y_removed, y_stream, y_type, y_from, y_by, y_value, y_version, y_on, y_call, y_draftType, y_draftValue, y_op, y_with, y_length, y_height, y_torn, y_stack, y_position, y_cells, y_noted, y_wanted, y_formed, y_cursor, y_parked, y_where, y_often, y_due, y_many, y_found⟩ := v
  have J := i_up I
  obtain ⟨q, hq, c, f, d, L, hL, hD, hP, hS, hG, hF⟩ := I
  obtain ⟨rfl, hlen, hop, ho3, hok⟩ := hP
  have h3 := hlen 3
  dsimp only [wpX_code, wpY_code]
  refine nm_r h3.1 ?_
  rcases es_rg v1 14 (by decide) with h | ⟨o, ho, rfl⟩
  · have Y : ∀ (P : Int32 → Prop), P 1 → wpY_out P v1 14 := fun P hP => ey_outT 14 rfl h hP
    by_cases z : v1 < 0
    · exact br_t z (Y _ (br_f (by decide) ⟨rfl, J⟩))
    · exact br_f z (br_t (h.resolve_left z) (Y _ (br_f (by decide) ⟨rfl, J⟩)))
  · have hn := es_nar o (by omega)
    by_cases l14 : L 3 < 14
    · have hn2 := es_nar (L 3 + 1) (by omega)
      have e42 : 42 + nI (L 3) = nI (42 + L 3) := nI_add 42 (L 3)
      have v42 : vp_in (nI (42 + L 3)) 56 := vp_in_nI (by omega) (by decide)
      have c42 : (nI (42 + L 3)).toNatClampNeg = 42 + L 3 := nI_clamp (by omega)
      refine br_f (nI_pos (by omega)) (br_f (nI_ge (b := 14) ho (by decide)) (br_t (nI_lt (b := 14) l14 (by decide)) ?_))
      rw [e42, nI_1, c42]
      refine ⟨v42, nm_e ⟨v42, nm_e (nm_e (ey_outF 14 o rfl (by decide) ho (br_t rfl (br_f ?_ ?_))))⟩⟩
      · rw [h3.1]
        exact fun z => by have := es_inj (b := 14) z (by omega) (by decide); omega
      · rw [h3.1, e42, nI_1, c42, hn.2, hn.1, hn2.2, hn2.1]
        refine ⟨v42, nm_e (nm_e ⟨v42, nm_e ⟨rfl, ?_⟩⟩)⟩
        refine ⟨q, by omega, c, f, d, fun m => if m = 3 then L 3 + 1 else L m, hL, hD, ⟨rfl, fun m => ?_, fun m i hm hi => ?_, fun i hi => ?_, fun m hm => ?_⟩, es_St_L hS (fun p hp => if_neg (by omega)), hG, hF⟩
        · by_cases e : m = 3
          · rw [e, pk_us]; simp only [if_pos]; exact ⟨trivial, by omega⟩
          · rw [pk_un e]; simp only [if_neg e]; exact hlen m
        · have hm14 := (hlen m).2
          by_cases e : 14 * m + i = 42 + L 3
          · rw [e, pk_us, pk_us, pk_us, pk_us]; exact ⟨rfl, rfl⟩
          · rw [pk_un e, pk_un e, pk_un e, pk_un e]
            refine hop m i hm ?_
            by_cases e3 : m = 3
            · subst e3; simp only [if_pos] at hi; omega
            · simp only [if_neg e3] at hi; exact hi
        · simp only [if_pos] at hi
          by_cases e : i = L 3
          · rw [e, pk_us]; exact ⟨o, ho, rfl⟩
          · rw [pk_un (by omega)]; exact ho3 i (by omega)
        · have hm14 := (hlen m).2
          simp only [if_neg (show ¬ m = 3 by omega)]
          exact es_OK_c (hok m hm) (fun i hi => ⟨pk_un (by omega), pk_un (by omega)⟩)
    · have e14 : L 3 = 14 := by omega
      refine br_f (nI_pos (by omega)) (br_f (nI_ge (b := 14) ho (by decide)) (br_f ?_ (ey_outF 14 o rfl (by decide) ho (br_t rfl (br_t ?_ ⟨rfl, J⟩)))))
      · rw [e14]; decide
      · rw [h3.1, e14]; rfl
theorem i_vc_found {k : Nat} {u : SX} {v : SY} (I : i_Rel k u v) (hk : k + 4 ≤ 2048) (v1 : Int32) : wpX_found (fun r => wpY_found (fun r' => r' = r ∧ i_Rel (k + 4) u v) v v1) u v1 := by
  obtain ⟨x_records, x_removedCount, x_flushed, x_drafted, x_height, x_time, x_foundAt, x_recordStream, x_recordType, x_recordVersion, x_recordValue, x_originProjection, x_originPosition, x_originInstruction, x_joined, x_removed, x_eventCount, x_cutLevel, x_draftType, x_draftValue, x_ops, x_arguments, x_programLength, x_states, x_noted, x_stack, x_metHeight, x_groupType, x_cursor, x_keptCursor, x_parked, x_rowCount, x_rowPosition, x_rowTimes, x_rowDue⟩ := u
  obtain ⟨y_count, y_flushed, y_calls, y_drafted, y_top, y_time, y_isCut, y_removed, y_stream, y_type, y_from, y_by, y_value, y_version, y_on, y_call, y_draftType, y_draftValue, y_op, y_with, y_length, y_height, y_torn, y_stack, y_position, y_cells, y_noted, y_wanted, y_formed, y_cursor, y_parked, y_where, y_often, y_due, y_many, y_found⟩ := v
  have J := i_up I
  obtain ⟨q, hq, c, f, d, L, hL, hD, hP, hS, hG, hF⟩ := I
  have hLL := hL
  obtain ⟨rfl, rfl, rfl, rfl, rfl, rfl, rfl, rfl, rfl, rfl, rfl, rfl, rfl, hl⟩ := hL
  have hc := hl.1.1
  dsimp only [wpX_found, wpY_found]
  rcases hF with ⟨rfl, h0⟩ | ⟨a, ha, rfl, hcut, f0, f1, f2, f3, f4, f5⟩
  · refine br_t (by decide) ?_
    rcases es_rg v1 6 (by decide) with h | ⟨w, hw, rfl⟩
    · exact ey_outT 6 rfl h (br_f (by decide) ⟨rfl, J⟩)
    · refine ey_outF 6 w rfl (by decide) hw (br_t rfl ⟨vp_in_nI hw (by decide), ?_, J⟩)
      rw [nI_clamp (by omega)]; exact h0 w hw
  · refine br_f (nI_pos (by omega)) (br_t (nI_lt ha (by omega)) ?_)
    have va : vp_in (nI a) 2000 := vp_in_nI (by omega) (by decide)
    have ca : (nI a).toNatClampNeg = a := nI_clamp (by omega)
    rw [ca, es_V0 hcut, es_T0 hcut, es_W0 hcut]
    rcases es_rg v1 6 (by decide) with h | ⟨w, hw, rfl⟩
    · by_cases z : v1 < 0
      · exact br_t z (ey_outT 6 rfl h (br_f (by decide) ⟨rfl, J⟩))
      · exact br_f z (br_t (es_ltle (show (5 : Int32) < nI 6 by decide) (h.resolve_left z)) (ey_outT 6 rfl h (br_f (by decide) ⟨rfl, J⟩)))
    · refine br_f (nI_pos (by omega)) (br_f (nI_nlt (a := 5) (by omega) (by decide)) ?_)
      have Y : ∀ x, y_found w = x → wpY_out (fun r_1 => (r_1 = 0 → vp_in (nI w) 6 ∧ y_found (nI w).toNatClampNeg = x ∧ i_Rel (k + 4) (nI c, nI (es_rc y_removed c), nI f, x_drafted, x_height, x_time, nI a, y_stream, es_T y_isCut y_type, es_V y_isCut y_version y_value, es_W y_isCut y_value, y_from, y_on, x_originInstruction, x_joined, y_removed, x_eventCount, x_cutLevel, x_draftType, x_draftValue, x_ops, x_arguments, x_programLength, x_states, x_noted, x_stack, x_metHeight, x_groupType, x_cursor, x_keptCursor, x_parked, x_rowCount, x_rowPosition, x_rowTimes, x_rowDue) (nI c, nI f, nI q, y_drafted, y_top, y_time, y_isCut, y_removed, y_stream, y_type, y_from, y_by, y_value, y_version, y_on, y_call, y_draftType, y_draftValue, y_op, y_with, y_length, y_height, y_torn, y_stack, y_position, y_cells, y_noted, y_wanted, y_formed, y_cursor, y_parked, y_where, y_often, y_due, y_many, y_found)) ∧ (¬ r_1 = 0 → 0 = x ∧ i_Rel (k + 4) (nI c, nI (es_rc y_removed c), nI f, x_drafted, x_height, x_time, nI a, y_stream, es_T y_isCut y_type, es_V y_isCut y_version y_value, es_W y_isCut y_value, y_from, y_on, x_originInstruction, x_joined, y_removed, x_eventCount, x_cutLevel, x_draftType, x_draftValue, x_ops, x_arguments, x_programLength, x_states, x_noted, x_stack, x_metHeight, x_groupType, x_cursor, x_keptCursor, x_parked, x_rowCount, x_rowPosition, x_rowTimes, x_rowDue) (nI c, nI f, nI q, y_drafted, y_top, y_time, y_isCut, y_removed, y_stream, y_type, y_from, y_by, y_value, y_version, y_on, y_call, y_draftType, y_draftValue, y_op, y_with, y_length, y_height, y_torn, y_stack, y_position, y_cells, y_noted, y_wanted, y_formed, y_cursor, y_parked, y_where, y_often, y_due, y_many, y_found))) (nI w) 6 := by
        intro x hx
        refine ey_outF 6 w rfl (by decide) hw (br_t rfl ⟨vp_in_nI hw (by decide), ?_, J⟩)
        rw [nI_clamp (by omega)]; exact hx
      have hcases : w = 0 ∨ w = 1 ∨ w = 2 ∨ w = 3 ∨ w = 4 ∨ w = 5 := by omega
      rcases hcases with e | e | e | e | e | e <;> subst e
      · exact br_t rfl ⟨va, Y _ f0⟩
      · exact br_f (by decide) (br_t rfl ⟨va, Y _ f1⟩)
      · exact br_f (by decide) (br_f (by decide) (br_t rfl ⟨va, Y _ f2⟩))
      · exact br_f (by decide) (br_f (by decide) (br_f (by decide) (br_t rfl ⟨va, Y _ f3⟩)))
      · exact br_f (by decide) (br_f (by decide) (br_f (by decide) (br_f (by decide) (br_t rfl ⟨va, Y _ f4⟩))))
      · exact br_f (by decide) (br_f (by decide) (br_f (by decide) (br_f (by decide) (br_f (by decide) (br_t rfl ⟨va, Y _ f5⟩)))))
theorem ex_formed0 {g : Int32} (h : g < 0 ∨ nI 2 ≤ g) (hp : post 0) : wpX_isFormed post (x_records, x_removedCount, x_flushed, x_drafted, x_height, x_time, x_foundAt, x_recordStream, x_recordType, x_recordVersion, x_recordValue, x_originProjection, x_originPosition, x_originInstruction, x_joined, x_removed, x_eventCount, x_cutLevel, x_draftType, x_draftValue, x_ops, x_arguments, x_programLength, x_states, x_noted, x_stack, x_metHeight, x_groupType, x_cursor, x_keptCursor, x_parked, x_rowCount, x_rowPosition, x_rowTimes, x_rowDue) g := by
  by_cases z : g < 0
  · exact br_t z hp
  · exact br_f z (br_t (h.resolve_left z) hp)
theorem ex_formed1 {g : Nat} (hg : g < 2) (h0 : x_groupType g = -1 → post 0) (h1 : ¬ x_groupType g = -1 → post 1) : wpX_isFormed post (x_records, x_removedCount, x_flushed, x_drafted, x_height, x_time, x_foundAt, x_recordStream, x_recordType, x_recordVersion, x_recordValue, x_originProjection, x_originPosition, x_originInstruction, x_joined, x_removed, x_eventCount, x_cutLevel, x_draftType, x_draftValue, x_ops, x_arguments, x_programLength, x_states, x_noted, x_stack, x_metHeight, x_groupType, x_cursor, x_keptCursor, x_parked, x_rowCount, x_rowPosition, x_rowTimes, x_rowDue) (nI g) := by
  refine br_f (nI_pos (by omega)) (br_f (nI_ge hg (by decide)) ⟨vp_in_nI hg (by decide), ?_⟩)
  rw [nI_clamp (by omega)]
  exact br_c h0 h1
theorem es_Frm_f {g : Nat} {gt fo wa : Nat → Int32} (H : es_Frm g gt fo wa) : gt g = -1 ↔ fo g = 0 := by
  rcases H with ⟨h1, h2⟩ | ⟨h1, t, ht, h2, h3⟩
  · exact ⟨fun _ => h1, fun _ => h2⟩
  · exact ⟨fun z => absurd (h2.symm.trans z) (es_nm1 (by omega)), fun z => absurd z h1⟩
theorem i_vc_group {k : Nat} {u : SX} {v : SY} (I : i_Rel k u v) (hk : k + 4 ≤ 2048) (v1 : Int32) (v2 : Int32) : wpX_group (fun r => wpY_group (fun r' => r' = r ∧ i_Rel (k + 4) u v) v v1 v2) u v1 v2 := by
  obtain ⟨x_records, x_removedCount, x_flushed, x_drafted, x_height, x_time, x_foundAt, x_recordStream, x_recordType, x_recordVersion, x_recordValue, x_originProjection, x_originPosition, x_originInstruction, x_joined, x_removed, x_eventCount, x_cutLevel, x_draftType, x_draftValue, x_ops, x_arguments, x_programLength, x_states, x_noted, x_stack, x_metHeight, x_groupType, x_cursor, x_keptCursor, x_parked, x_rowCount, x_rowPosition, x_rowTimes, x_rowDue⟩ := u
  obtain ⟨y_count, y_flushed, y_calls, y_drafted, y_top, y_time, y_isCut, y_removed, y_stream, y_type, y_from, y_by, y_value, y_version, y_on, y_call, y_draftType, y_draftValue, y_op, y_with, y_length, y_height, y_torn, y_stack, y_position, y_cells, y_noted, y_wanted, y_formed, y_cursor, y_parked, y_where, y_often, y_due, y_many, y_found⟩ := v
  have J := i_up I
  obtain ⟨q, hq, c, f, d, L, hL, hD, hP, hS, hG, hF⟩ := I
  have hG2 := hG
  obtain ⟨rfl, rfl, hg2⟩ := hG2
  dsimp only [wpX_group, wpY_group]
  rcases es_rg v1 2 (by decide) with h | ⟨g, hg, rfl⟩
  · exact ex_formed0 h (br_t rfl (ey_outT 2 rfl h (br_f (by decide) ⟨rfl, J⟩)))
  · obtain ⟨hfm, nt, nw, nk, u, l, hz, hgr⟩ := hg2 g hg
    have hff := es_Frm_f hfm
    have cg : (nI g).toNatClampNeg = g := nI_clamp (by omega)
    have vg2 : vp_in (nI g) 2 := vp_in_nI hg (by decide)
    have vg4 : vp_in (nI g) 4 := vp_in_nI (by omega) (by decide)
    have vg6 : vp_in (nI g) 6 := vp_in_nI (by omega) (by decide)
    refine ex_formed1 hg (fun z => br_t rfl (ey_outF 2 g rfl (by decide) hg (br_t rfl ⟨vg2, br_t (by rw [cg]; exact hff.mp z) ⟨rfl, J⟩⟩))) (fun z => br_f (by decide) ?_)
    have zf : ¬ y_formed (nI g).toNatClampNeg = 0 := by rw [cg]; exact fun w => z (hff.mpr w)
    have Y0 : ∀ P : Int32 → Prop, wpY_out P v2 4 → True := fun _ _ => trivial
    rcases es_rg v2 4 (by decide) with h | ⟨w, hw, rfl⟩
    · by_cases y : v2 < 0
      · exact br_t y (ey_outF 2 g rfl (by decide) hg (br_t rfl ⟨vg2, br_f zf (ey_outT 4 rfl h (br_f (by decide) ⟨rfl, J⟩))⟩))
      · exact br_f y (br_t (es_ltle (show (3 : Int32) < nI 4 by decide) (h.resolve_left y)) (ey_outF 2 g rfl (by decide) hg (br_t rfl ⟨vg2, br_f zf (ey_outT 4 rfl h (br_f (by decide) ⟨rfl, J⟩))⟩)))
    · obtain ⟨a0, a1, a2, a3⟩ := hgr
      refine br_f (nI_pos (by omega)) (br_f (nI_nlt (a := 3) (by omega) (by decide)) ?_)
      have c3 : (nI g * 3 + 0).toNatClampNeg = 3 * g := by rw [es_g3, nI_clamp (by omega)]
      have c31 : (nI g * 3 + 1).toNatClampNeg = 3 * g + 1 := by rw [es_g31, nI_clamp (by omega)]
      have v3 : vp_in (nI g * 3 + 0) 6 := by rw [es_g3]; exact vp_in_nI (by omega) (by decide)
      have v31 : vp_in (nI g * 3 + 1) 6 := by rw [es_g31]; exact vp_in_nI (by omega) (by decide)
      have c2 : (2 + nI g).toNatClampNeg = 2 + g := by rw [es_2g, nI_clamp (by omega)]
      have v2 : vp_in (2 + nI g) 6 := by rw [es_2g]; exact vp_in_nI (by omega) (by decide)
      rw [cg] at zf
      rw [cg, c3, c31, c2]
      have hcases : w = 0 ∨ w = 1 ∨ w = 2 ∨ w = 3 := by omega
      rcases hcases with e | e | e | e <;> subst e
      · exact br_t rfl ⟨vg2, ey_outF 2 g rfl (by decide) hg (br_t rfl ⟨vg2, br_f zf (ey_outF 4 0 rfl (by decide) hw (br_t rfl (br_t rfl ⟨vg4, a1.2.1.trans a1.1.symm, J⟩)))⟩)⟩
      · exact br_f (by decide) (br_t rfl ⟨v3, ey_outF 2 g rfl (by decide) hg (br_t rfl ⟨vg2, br_f zf (ey_outF 4 1 rfl (by decide) hw (br_t rfl (br_f (by decide) (br_t rfl ⟨vg6, a2.2.1.trans a2.1.symm, J⟩))))⟩)⟩)
      · exact br_f (by decide) (br_f (by decide) (br_t rfl ⟨v31, ey_outF 2 g rfl (by decide) hg (br_t rfl ⟨vg2, br_f zf (ey_outF 4 2 rfl (by decide) hw (br_t rfl (br_f (by decide) (br_f (by decide) (br_t rfl ⟨v2, a2.2.2.2.1.trans a2.2.2.1.symm, J⟩)))))⟩)⟩))
      · exact br_f (by decide) (br_f (by decide) (br_f (by decide) (br_t rfl ⟨vg2, ey_outF 2 g rfl (by decide) hg (br_t rfl ⟨vg2, br_f zf (ey_outF 4 3 rfl (by decide) hw (br_t rfl (br_f (by decide) (br_f (by decide) (br_f (by decide) ⟨vg2, rfl, J⟩)))))⟩)⟩)))
end
end
section
section
/-! answer, tick -/
variable {x_records x_removedCount x_flushed x_drafted x_height x_time x_foundAt : Int32} {x_recordStream x_recordType x_recordVersion x_recordValue x_originProjection x_originPosition x_originInstruction x_joined x_removed x_eventCount x_cutLevel x_draftType x_draftValue x_ops x_arguments x_programLength x_states x_noted x_stack x_metHeight x_groupType x_cursor x_keptCursor x_parked x_rowCount x_rowPosition x_rowTimes x_rowDue : Nat → Int32} {y_count y_flushed y_calls y_drafted y_top y_time : Int32} {y_isCut y_removed y_stream y_type y_from y_by y_value y_version y_on y_call y_draftType y_draftValue y_op y_with y_length y_height y_torn y_stack y_position y_cells y_noted y_wanted y_formed y_cursor y_parked y_where y_often y_due y_many y_found : Nat → Int32} {c f q : Nat} {cut rm str ty fr byi val ver onn call oi jn ec cl : Nat → Int32} {d : Nat} {L : Nat → Nat} {g nt nw nk u k : Nat}
def es_cnt (u : SX) (g : Nat) : Int32 := match u with
  | (x_records, x_removedCount, x_flushed, x_drafted, x_height, x_time, x_foundAt, x_recordStream, x_recordType, x_recordVersion, x_recordValue, x_originProjection, x_originPosition, x_originInstruction, x_joined, x_removed, x_eventCount, x_cutLevel, x_draftType, x_draftValue, x_ops, x_arguments, x_programLength, x_states, x_noted, x_stack, x_metHeight, x_groupType, x_cursor, x_keptCursor, x_parked, x_rowCount, x_rowPosition, x_rowTimes, x_rowDue) => x_rowCount (3 * g)
/-- one return, on both sides -/
theorem em_ret1 {i : Nat} (H : es_Q c f d L q (x_records, x_removedCount, x_flushed, x_drafted, x_height, x_time, x_foundAt, x_recordStream, x_recordType, x_recordVersion, x_recordValue, x_originProjection, x_originPosition, x_originInstruction, x_joined, x_removed, x_eventCount, x_cutLevel, x_draftType, x_draftValue, x_ops, x_arguments, x_programLength, x_states, x_noted, x_stack, x_metHeight, x_groupType, x_cursor, x_keptCursor, x_parked, x_rowCount, x_rowPosition, x_rowTimes, x_rowDue) (y_count, y_flushed, y_calls, y_drafted, y_top, y_time, y_isCut, y_removed, y_stream, y_type, y_from, y_by, y_value, y_version, y_on, y_call, y_draftType, y_draftValue, y_op, y_with, y_length, y_height, y_torn, y_stack, y_position, y_cells, y_noted, y_wanted, y_formed, y_cursor, y_parked, y_where, y_often, y_due, y_many, y_found)) (hg : g < 2) (hz : y_formed g = 0 → nt = 0) (hi : i < nt)
    (h : es_Grp c f g nt nw nk u k x_cursor x_keptCursor x_rowCount x_rowPosition x_rowTimes x_rowDue y_cursor y_many y_where y_often y_due) :
    ∃ (u' : SX) (v' : SY), es_Q c f d L q u' v' ∧ es_cnt u' g = nI (nt - 1) ∧ (∀ post : SX → Prop, post u' → wpX_returnEntry post (x_records, x_removedCount, x_flushed, x_drafted, x_height, x_time, x_foundAt, x_recordStream, x_recordType, x_recordVersion, x_recordValue, x_originProjection, x_originPosition, x_originInstruction, x_joined, x_removed, x_eventCount, x_cutLevel, x_draftType, x_draftValue, x_ops, x_arguments, x_programLength, x_states, x_noted, x_stack, x_metHeight, x_groupType, x_cursor, x_keptCursor, x_parked, x_rowCount, x_rowPosition, x_rowTimes, x_rowDue) (nI g) (nI i)) ∧ (∀ post : SY → Prop, post v' → wpY_giveBack post (y_count, y_flushed, y_calls, y_drafted, y_top, y_time, y_isCut, y_removed, y_stream, y_type, y_from, y_by, y_value, y_version, y_on, y_call, y_draftType, y_draftValue, y_op, y_with, y_length, y_height, y_torn, y_stack, y_position, y_cells, y_noted, y_wanted, y_formed, y_cursor, y_parked, y_where, y_often, y_due, y_many, y_found) (nI g) (nI (8 * g + i))) := by
  obtain ⟨hL, hD, hP, hS, hG, hF⟩ := H
  have h0 := h
  obtain ⟨a0, a1, a2, a3, a4, a5, a6, a7, a8, a9, a10⟩ := h
  have ht : y_often (8 * g + i) = x_rowTimes (18 * g + i) := (a3 i hi).2.2
  by_cases z : x_rowTimes (18 * g + i) < 3
  · have hG' := es_RG_retA hG hg hz hi h0
    refine ⟨_, _, ⟨hL, hD, hP, hS, hG', hF⟩, ?_, fun post hp => ex_return hg a2.1 a2.2.2.1 hi a0.2.2.1 (fun _ => hp) (fun w => absurd z w), fun post hp => ey_giveBack hg a2.2.1 a2.2.2.2.1 hi a0.2.2.1 (fun _ => hp) (fun w => absurd (by rw [ht]; exact z) w)⟩
    show upd (upd x_rowCount (3 * g) (nI (nt - 1))) (3 * g + 1) (nI (nw + 1)) (3 * g) = _
    rw [pk_un (by omega), pk_us]
  · have hG' := es_RG_delT (pk' := upd y_parked g (y_parked g + 1)) hG hg hz hi h0
    have hpk := hG.1
    subst hpk
    refine ⟨_, _, ⟨hL, hD, hP, hS, hG', hF⟩, ?_, fun post hp => ex_return hg a2.1 a2.2.2.1 hi a0.2.2.1 (fun w => absurd w z) (fun _ => hp), fun post hp => ey_giveBack hg a2.2.1 a2.2.2.2.1 hi a0.2.2.1 (fun w => absurd w (by rw [ht]; exact z)) (fun _ => hp)⟩
    show upd x_rowCount (3 * g) (nI (nt - 1)) (3 * g) = _
    rw [pk_us]
theorem em_ans {pos b : Int32} (H : es_Q c f d L q (x_records, x_removedCount, x_flushed, x_drafted, x_height, x_time, x_foundAt, x_recordStream, x_recordType, x_recordVersion, x_recordValue, x_originProjection, x_originPosition, x_originInstruction, x_joined, x_removed, x_eventCount, x_cutLevel, x_draftType, x_draftValue, x_ops, x_arguments, x_programLength, x_states, x_noted, x_stack, x_metHeight, x_groupType, x_cursor, x_keptCursor, x_parked, x_rowCount, x_rowPosition, x_rowTimes, x_rowDue) (y_count, y_flushed, y_calls, y_drafted, y_top, y_time, y_isCut, y_removed, y_stream, y_type, y_from, y_by, y_value, y_version, y_on, y_call, y_draftType, y_draftValue, y_op, y_with, y_length, y_height, y_torn, y_stack, y_position, y_cells, y_noted, y_wanted, y_formed, y_cursor, y_parked, y_where, y_often, y_due, y_many, y_found)) (hg : g < 2) (hz : y_formed g = 0 → nt = 0)
    (h : es_Grp c f g nt nw nk u k x_cursor x_keptCursor x_rowCount x_rowPosition x_rowTimes x_rowDue y_cursor y_many y_where y_often y_due) :
    ∀ m i, i + m = nt → ∃ (r : Int32) (u' : SX) (v' : SY), es_Q c f d L q u' v' ∧
      (∀ post : Int32 → SX → Prop, post r u' → wX_answer_20 post (nI g) pos b (nI (3 * g)) x_records x_removedCount x_flushed x_drafted x_height x_time x_foundAt x_recordStream x_recordType x_recordVersion x_recordValue x_originProjection x_originPosition x_originInstruction x_joined x_removed x_eventCount x_cutLevel x_draftType x_draftValue x_ops x_arguments x_programLength x_states x_noted x_stack x_metHeight x_groupType x_cursor x_keptCursor x_parked x_rowCount x_rowPosition x_rowTimes x_rowDue (m + 1) (nI i)) ∧
      (∀ post : Int32 → SY → Prop, post r v' → wY_answer_16 post (nI g) pos b y_count y_flushed y_calls y_drafted y_top y_time y_isCut y_removed y_stream y_type y_from y_by y_value y_version y_on y_call y_draftType y_draftValue y_op y_with y_length y_height y_torn y_stack y_position y_cells y_noted y_wanted y_formed y_cursor y_parked y_where y_often y_due y_many y_found (m + 1) (nI (8 * g + i))) := by
  have h0 := h
  obtain ⟨a0, a1, a2, a3, a4, a5, a6, a7, a8, a9, a10⟩ := h
  have e1 : (nI (3 * g)).toNatClampNeg = 3 * g := nI_clamp (by omega)
  have e2 : (nI g).toNatClampNeg = g := nI_clamp (by omega)
  have v1 : vp_in (nI (3 * g)) 6 := vp_in_nI (by omega) (by decide)
  have v2 : vp_in (nI g) 6 := vp_in_nI (by omega) (by decide)
  have b1 : 8 * nI g + y_many (nI g).toNatClampNeg = nI (8 * g + nt) := by rw [e2, a2.2.1, es_8, nI_add]
  have b0 : x_rowCount (nI (3 * g)).toNatClampNeg = nI nt := by rw [e1, a2.1]
  intro m
  induction m with
  | zero =>
    intro i hi
    refine ⟨0, _, _, H, fun post hp => ⟨v1, br_t ?_ hp⟩, fun post hp => ⟨v2, br_t ?_ hp⟩⟩
    · rw [b0]; exact nI_le (by omega) (by omega)
    · rw [b1]; exact nI_le (by omega) (by omega)
  | succ m ih =>
    intro i hi
    have hit : i < nt := by omega
    have x1 : ¬ x_rowCount (nI (3 * g)).toNatClampNeg ≤ nI i := by rw [b0]; exact nI_ge (by omega) (by omega)
    have y1 : ¬ 8 * nI g + y_many (nI g).toNatClampNeg ≤ nI (8 * g + i) := by rw [b1]; exact nI_ge (by omega) (by omega)
    have xi : nI (3 * g) * 6 + nI i = nI (18 * g + i) := by rw [es_6, nI_add, show 6 * (3 * g) + i = 18 * g + i by omega]
    have vx : vp_in (nI (3 * g) * 6 + nI i) 36 := by rw [xi]; exact vp_in_nI (by omega) (by decide)
    have vy : vp_in (nI (8 * g + i)) 64 := vp_in_nI (by omega) (by decide)
    have cx : (nI (3 * g) * 6 + nI i).toNatClampNeg = 18 * g + i := by rw [xi, nI_clamp (by omega)]
    have cy : (nI (8 * g + i)).toNatClampNeg = 8 * g + i := nI_clamp (by omega)
    have hwi := (a3 i hit).2.1
    by_cases hp : x_rowPosition (18 * g + i) = pos
    · have hx : x_rowPosition (nI (3 * g) * 6 + nI i).toNatClampNeg = pos := by rw [cx]; exact hp
      have hy : y_where (nI (8 * g + i)).toNatClampNeg = pos := by rw [cy, hwi]; exact hp
      by_cases hb : b = 0
      · obtain ⟨u', v', hQ, _, hX, hY⟩ := em_ret1 H hg hz hit h0
        refine ⟨1, u', v', hQ, fun post hp => ⟨v1, br_f x1 ⟨vx, br_t hx (br_t hb (hX _ ?_))⟩⟩, fun post hp => ⟨v2, br_f y1 ⟨vy, br_t hy (br_t hb (hY _ ?_))⟩⟩⟩
        · obtain ⟨x_records, x_removedCount, x_flushed, x_drafted, x_height, x_time, x_foundAt, x_recordStream, x_recordType, x_recordVersion, x_recordValue, x_originProjection, x_originPosition, x_originInstruction, x_joined, x_removed, x_eventCount, x_cutLevel, x_draftType, x_draftValue, x_ops, x_arguments, x_programLength, x_states, x_noted, x_stack, x_metHeight, x_groupType, x_cursor, x_keptCursor, x_parked, x_rowCount, x_rowPosition, x_rowTimes, x_rowDue⟩ := u'
          exact hp
        · obtain ⟨y_count, y_flushed, y_calls, y_drafted, y_top, y_time, y_isCut, y_removed, y_stream, y_type, y_from, y_by, y_value, y_version, y_on, y_call, y_draftType, y_draftValue, y_op, y_with, y_length, y_height, y_torn, y_stack, y_position, y_cells, y_noted, y_wanted, y_formed, y_cursor, y_parked, y_where, y_often, y_due, y_many, y_found⟩ := v'
          exact hp
      · obtain ⟨hL, hD, hP, hS, hG, hF⟩ := H
        have hG' := es_RG_delT (pk' := y_parked) hG hg hz hit h0
        have hpk := hG.1
        subst hpk
        exact ⟨1, _, _, ⟨hL, hD, hP, hS, hG', hF⟩, fun post hp => ⟨v1, br_f x1 ⟨vx, br_t hx (br_f hb (ex_remove (b := 18 * g) (by omega) (by omega) a2.1 hit (by omega) hp))⟩⟩, fun post hp => ⟨v2, br_f y1 ⟨vy, br_t hy (br_f hb (ey_strike (b := 8 * g) rfl (by omega) a2.2.1 hit (by omega) hp))⟩⟩⟩
    · obtain ⟨r, u', v', hQ, hX, hY⟩ := ih (i + 1) (by omega)
      exact ⟨r, u', v', hQ, fun post h' => ⟨v1, br_f x1 ⟨vx, br_f (by rw [cx]; exact hp) (nm_r (nI_1 _) (hX post h'))⟩⟩, fun post h' => ⟨v2, br_f y1 ⟨vy, br_f (by rw [cy, hwi]; exact hp) (nm_r (e' := nI (8 * g + (i + 1))) (nI_1 _) (hY post h'))⟩⟩⟩
theorem i_vc_answer {k : Nat} {u : SX} {v : SY} (I : i_Rel k u v) (hk : k + 4 ≤ 2048) (v1 : Int32) (v2 : Int32) (v3 : Int32) : wpX_answer (fun r u' => wpY_answer (fun r' v' => r' = r ∧ i_Rel (k + 4) u' v') v v1 v2 (lw_bz v3)) u v1 v2 (lw_bz v3) := by
  obtain ⟨x_records, x_removedCount, x_flushed, x_drafted, x_height, x_time, x_foundAt, x_recordStream, x_recordType, x_recordVersion, x_recordValue, x_originProjection, x_originPosition, x_originInstruction, x_joined, x_removed, x_eventCount, x_cutLevel, x_draftType, x_draftValue, x_ops, x_arguments, x_programLength, x_states, x_noted, x_stack, x_metHeight, x_groupType, x_cursor, x_keptCursor, x_parked, x_rowCount, x_rowPosition, x_rowTimes, x_rowDue⟩ := u
  obtain ⟨y_count, y_flushed, y_calls, y_drafted, y_top, y_time, y_isCut, y_removed, y_stream, y_type, y_from, y_by, y_value, y_version, y_on, y_call, y_draftType, y_draftValue, y_op, y_with, y_length, y_height, y_torn, y_stack, y_position, y_cells, y_noted, y_wanted, y_formed, y_cursor, y_parked, y_where, y_often, y_due, y_many, y_found⟩ := v
  have J := i_up I
  obtain ⟨q, hq, c, f, d, L, hQ⟩ := I
  dsimp only [wpX_answer, wpY_answer]
  rcases es_rg v1 2 (by decide) with h | ⟨g, hg, rfl⟩
  · exact ex_formed0 h (br_t rfl (ey_outT 2 rfl h (br_f (by decide) ⟨rfl, J⟩)))
  · obtain ⟨hfm, nt, nw, nk, u, l, hz, hgr⟩ := hQ.2.2.2.2.1.2.2 g hg
    have hff := es_Frm_f hfm
    obtain ⟨r, u', v', hQ', hX, hY⟩ := em_ans (pos := v2) (b := lw_bz v3) hQ hg hz hgr nt 0 (by omega)
    refine ex_formed1 hg (fun z => ?_) (fun z => ?_)
    · refine br_t rfl (ey_outF 2 g rfl (by decide) hg (br_t rfl (nm_r (es_8 g) ⟨1, vp_in_nI (by omega) (by decide), br_t ?_ ⟨rfl, J⟩⟩)))
      rw [nI_clamp (by omega), hgr.2.2.1.2.1, hz (hff.mp z), es_8, nI_add]
      exact nI_le (by omega) (by omega)
    · exact br_f (by decide) (nm_r (es_g3 g) ⟨_, hX _ (ey_outF 2 g rfl (by decide) hg (br_t rfl (nm_r (es_8 g) ⟨_, hY _ ⟨rfl, q, by omega, c, f, d, L, hQ'⟩⟩)))⟩)
/-- all that is due in one group -/
theorem em_retn (hg : g < 2) : ∀ m j, j + m = 6 → ∀ (u : SX) (v : SY) (nt : Nat), es_Q c f d L q u v → es_cnt u g = nI nt → nt ≤ m → ∀ x2 : Int32, ∃ (jr : Nat) (u' : SX) (v' : SY), es_Q c f d L q u' v' ∧
      (∀ post : Int32 → SX → Prop, post (nI (j + jr)) u' → match u with | (x_records, x_removedCount, x_flushed, x_drafted, x_height, x_time, x_foundAt, x_recordStream, x_recordType, x_recordVersion, x_recordValue, x_originProjection, x_originPosition, x_originInstruction, x_joined, x_removed, x_eventCount, x_cutLevel, x_draftType, x_draftValue, x_ops, x_arguments, x_programLength, x_states, x_noted, x_stack, x_metHeight, x_groupType, x_cursor, x_keptCursor, x_parked, x_rowCount, x_rowPosition, x_rowTimes, x_rowDue) => wX_returnDue_2 post (nI g) (m + 1) (nI j) x_records x_removedCount x_flushed x_drafted x_height x_time x_foundAt x_recordStream x_recordType x_recordVersion x_recordValue x_originProjection x_originPosition x_originInstruction x_joined x_removed x_eventCount x_cutLevel x_draftType x_draftValue x_ops x_arguments x_programLength x_states x_noted x_stack x_metHeight x_groupType x_cursor x_keptCursor x_parked x_rowCount x_rowPosition x_rowTimes x_rowDue) ∧
      (∀ (post : Int32 → SY → Prop) (K : Int32 → Int32 → SY → Prop), K (x2 + nI jr) (nI g + 1) v' → match v with | (y_count, y_flushed, y_calls, y_drafted, y_top, y_time, y_isCut, y_removed, y_stream, y_type, y_from, y_by, y_value, y_version, y_on, y_call, y_draftType, y_draftValue, y_op, y_with, y_length, y_height, y_torn, y_stack, y_position, y_cells, y_noted, y_wanted, y_formed, y_cursor, y_parked, y_where, y_often, y_due, y_many, y_found) => wpY_late (fun r => wY_tick_38 post ((fun a b z_count z_flushed z_calls z_drafted z_top z_time z_isCut z_removed z_stream z_type z_from z_by z_value z_version z_on z_call z_draftType z_draftValue z_op z_with z_length z_height z_torn z_stack z_position z_cells z_noted z_wanted z_formed z_cursor z_parked z_where z_often z_due z_many z_found => K a b (z_count, z_flushed, z_calls, z_drafted, z_top, z_time, z_isCut, z_removed, z_stream, z_type, z_from, z_by, z_value, z_version, z_on, z_call, z_draftType, z_draftValue, z_op, z_with, z_length, z_height, z_torn, z_stack, z_position, z_cells, z_noted, z_wanted, z_formed, z_cursor, z_parked, z_where, z_often, z_due, z_many, z_found))) (nI g) (m + 1) x2 r y_count y_flushed y_calls y_drafted y_top y_time y_isCut y_removed y_stream y_type y_from y_by y_value y_version y_on y_call y_draftType y_draftValue y_op y_with y_length y_height y_torn y_stack y_position y_cells y_noted y_wanted y_formed y_cursor y_parked y_where y_often y_due y_many y_found) (y_count, y_flushed, y_calls, y_drafted, y_top, y_time, y_isCut, y_removed, y_stream, y_type, y_from, y_by, y_value, y_version, y_on, y_call, y_draftType, y_draftValue, y_op, y_with, y_length, y_height, y_torn, y_stack, y_position, y_cells, y_noted, y_wanted, y_formed, y_cursor, y_parked, y_where, y_often, y_due, y_many, y_found) (nI g)) := by
  intro m
  induction m with
  | zero =>
    intro j hj u v nt hQ hcnt hnt x2
    obtain ⟨x_records, x_removedCount, x_flushed, x_drafted, x_height, x_time, x_foundAt, x_recordStream, x_recordType, x_recordVersion, x_recordValue, x_originProjection, x_originPosition, x_originInstruction, x_joined, x_removed, x_eventCount, x_cutLevel, x_draftType, x_draftValue, x_ops, x_arguments, x_programLength, x_states, x_noted, x_stack, x_metHeight, x_groupType, x_cursor, x_keptCursor, x_parked, x_rowCount, x_rowPosition, x_rowTimes, x_rowDue⟩ := u
    obtain ⟨y_count, y_flushed, y_calls, y_drafted, y_top, y_time, y_isCut, y_removed, y_stream, y_type, y_from, y_by, y_value, y_version, y_on, y_call, y_draftType, y_draftValue, y_op, y_with, y_length, y_height, y_torn, y_stack, y_position, y_cells, y_noted, y_wanted, y_formed, y_cursor, y_parked, y_where, y_often, y_due, y_many, y_found⟩ := v
    obtain ⟨hfm, nt', nw, nk, w, l, hz, hgr⟩ := hQ.2.2.2.2.1.2.2 g hg
    have ht := hQ.2.2.2.2.1.2.1
    subst ht
    obtain ⟨o, ho, hX, hY⟩ := em_due hQ hg hgr
    have e0 : nt' = 0 := by
      have e1 : x_rowCount (3 * g) = nI nt := hcnt
      rw [hgr.2.2.1.1] at e1
      have := es_inj e1 (by have := hgr.1.2.2.1; omega) (by omega)
      omega
    have e : o = none := by
      cases o with
      | none => rfl
      | some b => have := ho b rfl; omega
    subst e
    refine ⟨0, _, _, hQ, fun post hp => br_t ?_ ?_, fun post K hK => hY _ (br_t (show (-1 : Int32) < 0 by decide) (nm_e ?_))⟩
    · exact nI_le (a := 6) (by omega) (by omega)
    · rw [show j + 0 = 6 by omega] at hp; exact hp
    · rw [nI_0, Int32.add_zero] at hK; exact hK
  | succ m ih =>
    intro j hj u v nt hQ hcnt hnt x2
    obtain ⟨x_records, x_removedCount, x_flushed, x_drafted, x_height, x_time, x_foundAt, x_recordStream, x_recordType, x_recordVersion, x_recordValue, x_originProjection, x_originPosition, x_originInstruction, x_joined, x_removed, x_eventCount, x_cutLevel, x_draftType, x_draftValue, x_ops, x_arguments, x_programLength, x_states, x_noted, x_stack, x_metHeight, x_groupType, x_cursor, x_keptCursor, x_parked, x_rowCount, x_rowPosition, x_rowTimes, x_rowDue⟩ := u
    obtain ⟨y_count, y_flushed, y_calls, y_drafted, y_top, y_time, y_isCut, y_removed, y_stream, y_type, y_from, y_by, y_value, y_version, y_on, y_call, y_draftType, y_draftValue, y_op, y_with, y_length, y_height, y_torn, y_stack, y_position, y_cells, y_noted, y_wanted, y_formed, y_cursor, y_parked, y_where, y_often, y_due, y_many, y_found⟩ := v
    obtain ⟨hfm, nt', nw, nk, w, l, hz, hgr⟩ := hQ.2.2.2.2.1.2.2 g hg
    have ht := hQ.2.2.2.2.1.2.1
    subst ht
    obtain ⟨o, ho, hX, hY⟩ := em_due hQ hg hgr
    have e0 : nt' = nt := by
      have e1 : x_rowCount (3 * g) = nI nt := hcnt
      rw [hgr.2.2.1.1] at e1
      exact es_inj e1 (by have := hgr.1.2.2.1; omega) (by omega)
    have hj6 : ¬ (6 : Int32) ≤ nI j := nI_ge (b := 6) (by omega) (by decide)
    cases o with
    | none =>
      refine ⟨0, _, _, hQ, fun post hp => br_f hj6 (hX _ (br_t rfl hp)), fun post K hK => hY _ (br_t (show (-1 : Int32) < 0 by decide) (nm_e ?_))⟩
      rw [nI_0, Int32.add_zero] at hK; exact hK
    | some b =>
      have hb := ho b rfl
      obtain ⟨u1, v1, hQ1, hc1, hX1, hY1⟩ := em_ret1 hQ hg hz hb hgr
      obtain ⟨jr, u', v', hQ', hX', hY'⟩ := ih (j + 1) (by omega) u1 v1 (nt' - 1) hQ1 hc1 (by omega) (x2 + 1)
      obtain ⟨x_records, x_removedCount, x_flushed, x_drafted, x_height, x_time, x_foundAt, x_recordStream, x_recordType, x_recordVersion, x_recordValue, x_originProjection, x_originPosition, x_originInstruction, x_joined, x_removed, x_eventCount, x_cutLevel, x_draftType, x_draftValue, x_ops, x_arguments, x_programLength, x_states, x_noted, x_stack, x_metHeight, x_groupType, x_cursor, x_keptCursor, x_parked, x_rowCount, x_rowPosition, x_rowTimes, x_rowDue⟩ := u1
      obtain ⟨y_count, y_flushed, y_calls, y_drafted, y_top, y_time, y_isCut, y_removed, y_stream, y_type, y_from, y_by, y_value, y_version, y_on, y_call, y_draftType, y_draftValue, y_op, y_with, y_length, y_height, y_torn, y_stack, y_position, y_cells, y_noted, y_wanted, y_formed, y_cursor, y_parked, y_where, y_often, y_due, y_many, y_found⟩ := v1
      refine ⟨jr + 1, u', v', hQ', fun post hp => br_f hj6 (hX _ (br_f (es_nm4 (by omega)) (hX1 _ (nm_r (nI_1 _) (hX' post ?_))))), fun post K hK => hY _ (br_f (nI_pos (n := 8 * g + b) (by omega)) (hY1 _ (nm_e (hY' post K ?_))))⟩
      · rw [show j + 1 + jr = j + (jr + 1) by omega]; exact hp
      · rw [nI_succ, Int32.add_comm (nI jr), ← Int32.add_assoc] at hK; exact hK
theorem em_tickg (hg : g < 2) (H : es_Q c f d L q (x_records, x_removedCount, x_flushed, x_drafted, x_height, x_time, x_foundAt, x_recordStream, x_recordType, x_recordVersion, x_recordValue, x_originProjection, x_originPosition, x_originInstruction, x_joined, x_removed, x_eventCount, x_cutLevel, x_draftType, x_draftValue, x_ops, x_arguments, x_programLength, x_states, x_noted, x_stack, x_metHeight, x_groupType, x_cursor, x_keptCursor, x_parked, x_rowCount, x_rowPosition, x_rowTimes, x_rowDue) (y_count, y_flushed, y_calls, y_drafted, y_top, y_time, y_isCut, y_removed, y_stream, y_type, y_from, y_by, y_value, y_version, y_on, y_call, y_draftType, y_draftValue, y_op, y_with, y_length, y_height, y_torn, y_stack, y_position, y_cells, y_noted, y_wanted, y_formed, y_cursor, y_parked, y_where, y_often, y_due, y_many, y_found)) (x2 : Int32) : ∃ (jr : Nat) (u' : SX) (v' : SY), es_Q c f d L q u' v' ∧
      (∀ post : Int32 → SX → Prop, post (nI jr) u' → wpX_returnDue post (x_records, x_removedCount, x_flushed, x_drafted, x_height, x_time, x_foundAt, x_recordStream, x_recordType, x_recordVersion, x_recordValue, x_originProjection, x_originPosition, x_originInstruction, x_joined, x_removed, x_eventCount, x_cutLevel, x_draftType, x_draftValue, x_ops, x_arguments, x_programLength, x_states, x_noted, x_stack, x_metHeight, x_groupType, x_cursor, x_keptCursor, x_parked, x_rowCount, x_rowPosition, x_rowTimes, x_rowDue) (nI g)) ∧
      (∀ (post : Int32 → SY → Prop) (K : Int32 → Int32 → SY → Prop), K (x2 + nI jr) (nI g + 1) v' → wpY_late (fun r => ∃ n, wY_tick_38 post ((fun a b z_count z_flushed z_calls z_drafted z_top z_time z_isCut z_removed z_stream z_type z_from z_by z_value z_version z_on z_call z_draftType z_draftValue z_op z_with z_length z_height z_torn z_stack z_position z_cells z_noted z_wanted z_formed z_cursor z_parked z_where z_often z_due z_many z_found => K a b (z_count, z_flushed, z_calls, z_drafted, z_top, z_time, z_isCut, z_removed, z_stream, z_type, z_from, z_by, z_value, z_version, z_on, z_call, z_draftType, z_draftValue, z_op, z_with, z_length, z_height, z_torn, z_stack, z_position, z_cells, z_noted, z_wanted, z_formed, z_cursor, z_parked, z_where, z_often, z_due, z_many, z_found))) (nI g) n x2 r y_count y_flushed y_calls y_drafted y_top y_time y_isCut y_removed y_stream y_type y_from y_by y_value y_version y_on y_call y_draftType y_draftValue y_op y_with y_length y_height y_torn y_stack y_position y_cells y_noted y_wanted y_formed y_cursor y_parked y_where y_often y_due y_many y_found) (y_count, y_flushed, y_calls, y_drafted, y_top, y_time, y_isCut, y_removed, y_stream, y_type, y_from, y_by, y_value, y_version, y_on, y_call, y_draftType, y_draftValue, y_op, y_with, y_length, y_height, y_torn, y_stack, y_position, y_cells, y_noted, y_wanted, y_formed, y_cursor, y_parked, y_where, y_often, y_due, y_many, y_found) (nI g)) := by
  obtain ⟨hfm, nt, nw, nk, w, l, hz, hgr⟩ := H.2.2.2.2.1.2.2 g hg
  have ht := H.2.2.2.2.1.2.1
  subst ht
  obtain ⟨o, ho, hX, hY⟩ := em_due H hg hgr
  have hj6 : ¬ (6 : Int32) ≤ nI 0 := by decide
  cases o with
  | none =>
    refine ⟨0, _, _, H, fun post hp => ⟨1, br_f hj6 (hX _ (br_t rfl hp))⟩, fun post K hK => hY _ ⟨1, br_t (show (-1 : Int32) < 0 by decide) (nm_e ?_)⟩⟩
    rw [nI_0, Int32.add_zero] at hK; exact hK
  | some b =>
    have hb := ho b rfl
    obtain ⟨u1, v1, hQ1, hc1, hX1, hY1⟩ := em_ret1 H hg hz hb hgr
    obtain ⟨jr, u', v', hQ', hX', hY'⟩ := em_retn hg 5 1 (by omega) u1 v1 (nt - 1) hQ1 hc1 (by have := hgr.1.2.2.1; omega) (x2 + 1)
    obtain ⟨x_records, x_removedCount, x_flushed, x_drafted, x_height, x_time, x_foundAt, x_recordStream, x_recordType, x_recordVersion, x_recordValue, x_originProjection, x_originPosition, x_originInstruction, x_joined, x_removed, x_eventCount, x_cutLevel, x_draftType, x_draftValue, x_ops, x_arguments, x_programLength, x_states, x_noted, x_stack, x_metHeight, x_groupType, x_cursor, x_keptCursor, x_parked, x_rowCount, x_rowPosition, x_rowTimes, x_rowDue⟩ := u1
    obtain ⟨y_count, y_flushed, y_calls, y_drafted, y_top, y_time, y_isCut, y_removed, y_stream, y_type, y_from, y_by, y_value, y_version, y_on, y_call, y_draftType, y_draftValue, y_op, y_with, y_length, y_height, y_torn, y_stack, y_position, y_cells, y_noted, y_wanted, y_formed, y_cursor, y_parked, y_where, y_often, y_due, y_many, y_found⟩ := v1
    refine ⟨jr + 1, u', v', hQ', fun post hp => ⟨7, br_f hj6 (hX _ (br_f (es_nm4 (by have := hgr.1.2.2.1; omega)) (hX1 _ (nm_e (hX' post ?_)))))⟩, fun post K hK => hY _ ⟨7, br_f (nI_pos (n := 8 * g + b) (by have := hgr.1.2.2.1; omega)) (hY1 _ (nm_e (hY' post K ?_)))⟩⟩
    · rw [show 1 + jr = jr + 1 by omega]; exact hp
    · rw [nI_succ, Int32.add_comm (nI jr), ← Int32.add_assoc] at hK; exact hK
theorem i_vc_tick {k : Nat} {u : SX} {v : SY} (I : i_Rel k u v) (hk : k + 4 ≤ 2048) (v1 : Int32) : wpX_tick (fun r u' => wpY_tick (fun r' v' => r' = r ∧ i_Rel (k + 4) u' v') v v1) u v1 := by
  obtain ⟨x_records, x_removedCount, x_flushed, x_drafted, x_height, x_time, x_foundAt, x_recordStream, x_recordType, x_recordVersion, x_recordValue, x_originProjection, x_originPosition, x_originInstruction, x_joined, x_removed, x_eventCount, x_cutLevel, x_draftType, x_draftValue, x_ops, x_arguments, x_programLength, x_states, x_noted, x_stack, x_metHeight, x_groupType, x_cursor, x_keptCursor, x_parked, x_rowCount, x_rowPosition, x_rowTimes, x_rowDue⟩ := u
  obtain ⟨y_count, y_flushed, y_calls, y_drafted, y_top, y_time, y_isCut, y_removed, y_stream, y_type, y_from, y_by, y_value, y_version, y_on, y_call, y_draftType, y_draftValue, y_op, y_with, y_length, y_height, y_torn, y_stack, y_position, y_cells, y_noted, y_wanted, y_formed, y_cursor, y_parked, y_where, y_often, y_due, y_many, y_found⟩ := v
  have J := i_up I
  obtain ⟨q, hq, c, f, d, L, hQ⟩ := I
  dsimp only [wpX_tick, wpY_tick]
  by_cases z : v1 < 0
  · exact br_t z (br_t z ⟨rfl, J⟩)
  · by_cases z2 : v1 ≤ 100
    · obtain ⟨hL, hD, hP, hS, ⟨g1, g2, g3⟩, hF⟩ := hQ
      subst g2
      have hQ : es_Q c f d L q (x_records, x_removedCount, x_flushed, x_drafted, x_height, y_time + v1, x_foundAt, x_recordStream, x_recordType, x_recordVersion, x_recordValue, x_originProjection, x_originPosition, x_originInstruction, x_joined, x_removed, x_eventCount, x_cutLevel, x_draftType, x_draftValue, x_ops, x_arguments, x_programLength, x_states, x_noted, x_stack, x_metHeight, x_groupType, x_cursor, x_keptCursor, x_parked, x_rowCount, x_rowPosition, x_rowTimes, x_rowDue) (y_count, y_flushed, y_calls, y_drafted, y_top, y_time + v1, y_isCut, y_removed, y_stream, y_type, y_from, y_by, y_value, y_version, y_on, y_call, y_draftType, y_draftValue, y_op, y_with, y_length, y_height, y_torn, y_stack, y_position, y_cells, y_noted, y_wanted, y_formed, y_cursor, y_parked, y_where, y_often, y_due, y_many, y_found) := ⟨hL, hD, hP, hS, ⟨g1, rfl, g3⟩, hF⟩
      obtain ⟨j0, u0, v0, hQ0, hX0, hY0⟩ := em_tickg (g := 0) (by omega) hQ 0
      obtain ⟨w_1, w_2, w_3, w_4, w_5, w_6, w_7, w_8, w_9, w_10, w_11, w_12, w_13, w_14, w_15, w_16, w_17, w_18, w_19, w_20, w_21, w_22, w_23, w_24, w_25, w_26, w_27, w_28, w_29, w_30, w_31, w_32, w_33, w_34, w_35⟩ := u0
      obtain ⟨t_1, t_2, t_3, t_4, t_5, t_6, t_7, t_8, t_9, t_10, t_11, t_12, t_13, t_14, t_15, t_16, t_17, t_18, t_19, t_20, t_21, t_22, t_23, t_24, t_25, t_26, t_27, t_28, t_29, t_30, t_31, t_32, t_33, t_34, t_35, t_36⟩ := v0
      obtain ⟨j1, u1, v1', hQ1, hX1, hY1⟩ := em_tickg (g := 1) (by omega) hQ0 (0 + nI j0)
      refine br_f z (br_t z2 (nm_e ⟨3, br_f (by decide) (hX0 _ (nm_e (nm_e (br_f (by decide) (hX1 _ ?_)))))⟩))
      obtain ⟨w_1, w_2, w_3, w_4, w_5, w_6, w_7, w_8, w_9, w_10, w_11, w_12, w_13, w_14, w_15, w_16, w_17, w_18, w_19, w_20, w_21, w_22, w_23, w_24, w_25, w_26, w_27, w_28, w_29, w_30, w_31, w_32, w_33, w_34, w_35⟩ := u1
      refine nm_e (nm_e (br_t (by decide) ?_))
      refine br_f z (br_t z2 (nm_e ⟨3, br_f (by decide) ?_⟩))
      refine hY0 _ (fun a b v => match v with | (y_count, y_flushed, y_calls, y_drafted, y_top, y_time, y_isCut, y_removed, y_stream, y_type, y_from, y_by, y_value, y_version, y_on, y_call, y_draftType, y_draftValue, y_op, y_with, y_length, y_height, y_torn, y_stack, y_position, y_cells, y_noted, y_wanted, y_formed, y_cursor, y_parked, y_where, y_often, y_due, y_many, y_found) => wY_tick_26 (fun r' v' => r' = 0 + nI j0 + nI j1 ∧ i_Rel (k + 4) (w_1, w_2, w_3, w_4, w_5, w_6, w_7, w_8, w_9, w_10, w_11, w_12, w_13, w_14, w_15, w_16, w_17, w_18, w_19, w_20, w_21, w_22, w_23, w_24, w_25, w_26, w_27, w_28, w_29, w_30, w_31, w_32, w_33, w_34, w_35) v') 2 a b y_count y_flushed y_calls y_drafted y_top y_time y_isCut y_removed y_stream y_type y_from y_by y_value y_version y_on y_call y_draftType y_draftValue y_op y_with y_length y_height y_torn y_stack y_position y_cells y_noted y_wanted y_formed y_cursor y_parked y_where y_often y_due y_many y_found) ?_
      refine br_f (by decide) ?_
      refine hY1 _ (fun a b v => match v with | (y_count, y_flushed, y_calls, y_drafted, y_top, y_time, y_isCut, y_removed, y_stream, y_type, y_from, y_by, y_value, y_version, y_on, y_call, y_draftType, y_draftValue, y_op, y_with, y_length, y_height, y_torn, y_stack, y_position, y_cells, y_noted, y_wanted, y_formed, y_cursor, y_parked, y_where, y_often, y_due, y_many, y_found) => wY_tick_26 (fun r' v' => r' = 0 + nI j0 + nI j1 ∧ i_Rel (k + 4) (w_1, w_2, w_3, w_4, w_5, w_6, w_7, w_8, w_9, w_10, w_11, w_12, w_13, w_14, w_15, w_16, w_17, w_18, w_19, w_20, w_21, w_22, w_23, w_24, w_25, w_26, w_27, w_28, w_29, w_30, w_31, w_32, w_33, w_34, w_35) v') 1 a b y_count y_flushed y_calls y_drafted y_top y_time y_isCut y_removed y_stream y_type y_from y_by y_value y_version y_on y_call y_draftType y_draftValue y_op y_with y_length y_height y_torn y_stack y_position y_cells y_noted y_wanted y_formed y_cursor y_parked y_where y_often y_due y_many y_found) ?_
      obtain ⟨t_1, t_2, t_3, t_4, t_5, t_6, t_7, t_8, t_9, t_10, t_11, t_12, t_13, t_14, t_15, t_16, t_17, t_18, t_19, t_20, t_21, t_22, t_23, t_24, t_25, t_26, t_27, t_28, t_29, t_30, t_31, t_32, t_33, t_34, t_35, t_36⟩ := v1'
      exact br_t (by decide) ⟨rfl, q, by omega, c, f, d, L, hQ1⟩
    · exact br_f z (br_f z2 (br_f z (br_f z2 ⟨rfl, J⟩)))
end
end
section
section
/-! take -/
variable {x_records x_removedCount x_flushed x_drafted x_height x_time x_foundAt : Int32} {x_recordStream x_recordType x_recordVersion x_recordValue x_originProjection x_originPosition x_originInstruction x_joined x_removed x_eventCount x_cutLevel x_draftType x_draftValue x_ops x_arguments x_programLength x_states x_noted x_stack x_metHeight x_groupType x_cursor x_keptCursor x_parked x_rowCount x_rowPosition x_rowTimes x_rowDue : Nat → Int32} {y_count y_flushed y_calls y_drafted y_top y_time : Int32} {y_isCut y_removed y_stream y_type y_from y_by y_value y_version y_on y_call y_draftType y_draftValue y_op y_with y_length y_height y_torn y_stack y_position y_cells y_noted y_wanted y_formed y_cursor y_parked y_where y_often y_due y_many y_found : Nat → Int32} {c f q : Nat} {cut rm str ty fr byi val ver onn call oi jn ec cl : Nat → Int32} {d : Nat} {L : Nat → Nat} {g nt nw nk u k : Nat}
def es_cnw (u : SX) (g : Nat) : Int32 := match u with
  | (x_records, x_removedCount, x_flushed, x_drafted, x_height, x_time, x_foundAt, x_recordStream, x_recordType, x_recordVersion, x_recordValue, x_originProjection, x_originPosition, x_originInstruction, x_joined, x_removed, x_eventCount, x_cutLevel, x_draftType, x_draftValue, x_ops, x_arguments, x_programLength, x_states, x_noted, x_stack, x_metHeight, x_groupType, x_cursor, x_keptCursor, x_parked, x_rowCount, x_rowPosition, x_rowTimes, x_rowDue) => x_rowCount (3 * g + 1)
def es_gty (u : SX) (g : Nat) : Int32 := match u with
  | (x_records, x_removedCount, x_flushed, x_drafted, x_height, x_time, x_foundAt, x_recordStream, x_recordType, x_recordVersion, x_recordValue, x_originProjection, x_originPosition, x_originInstruction, x_joined, x_removed, x_eventCount, x_cutLevel, x_draftType, x_draftValue, x_ops, x_arguments, x_programLength, x_states, x_noted, x_stack, x_metHeight, x_groupType, x_cursor, x_keptCursor, x_parked, x_rowCount, x_rowPosition, x_rowTimes, x_rowDue) => x_groupType g
theorem es_RG_delW {i : Nat} (H : es_RG c f x_groupType x_cursor x_keptCursor x_parked x_rowCount x_rowPosition x_rowTimes x_rowDue x_time y_formed y_wanted y_cursor y_parked y_many y_where y_often y_due y_time) (hg : g < 2) (hz : y_formed g = 0 → nt = 0) (hi : i < nw)
    (h : es_Grp c f g nt nw nk u k x_cursor x_keptCursor x_rowCount x_rowPosition x_rowTimes x_rowDue y_cursor y_many y_where y_often y_due) :
    es_RG c f x_groupType x_cursor x_keptCursor x_parked (upd x_rowCount (3 * g + 1) (nI (nw - 1))) (es_del x_rowPosition (18 * g + 6 + i) (18 * g + 6 + (nw - 1))) (es_del x_rowTimes (18 * g + 6 + i) (18 * g + 6 + (nw - 1))) (es_del x_rowDue (18 * g + 6 + i) (18 * g + 6 + (nw - 1))) x_time y_formed y_wanted y_cursor y_parked (upd y_many (2 + g) (nI (nw - 1))) (es_del y_where (16 + 8 * g + i) (16 + 8 * g + (nw - 1))) (es_del y_often (16 + 8 * g + i) (16 + 8 * g + (nw - 1))) (es_del y_due (16 + 8 * g + i) (16 + 8 * g + (nw - 1))) y_time := by
  have hn := h.1.2.2.1
  have hp := H.1
  subst hp
  refine es_RG_set H hg hz (es_Grp_dw h hi hg) (fun j hj => ?_) (fun j hj => ?_) (fun j a b d => ?_) (fun j a b d => ?_) (fun j _ => ⟨rfl, rfl⟩) (fun j _ _ => rfl)
  · rw [es_del_o (by omega), es_del_o (by omega), es_del_o (by omega)]
    exact ⟨rfl, rfl, rfl⟩
  · rw [pk_un (by omega)]
  · rw [pk_un b]
  · rw [es_del_o (by omega), es_del_o (by omega), es_del_o (by omega)]
    exact ⟨rfl, rfl, rfl⟩
/-- an event comes to the TAKEN ones, and the cursor goes on -/
theorem es_RG_at {a u' : Nat} {tm dv : Int32} (H : es_RG c f x_groupType x_cursor x_keptCursor x_parked x_rowCount x_rowPosition x_rowTimes x_rowDue x_time y_formed y_wanted y_cursor y_parked y_many y_where y_often y_due y_time) (hg : g < 2) (hz : ¬ y_formed g = 0)
    (h : es_Grp c f g nt nw nk u k x_cursor x_keptCursor x_rowCount x_rowPosition x_rowTimes x_rowDue y_cursor y_many y_where y_often y_due)
    (hn : nt + nw < 6) (hu : u ≤ u') (hc : u' ≤ c) (ha : a < u') (d1 : ∀ i, i < nt → ¬ x_rowPosition (18 * g + i) = nI a) (d2 : ∀ i, i < nw → ¬ x_rowPosition (18 * g + 6 + i) = nI a) :
    es_RG c f x_groupType (upd x_cursor g (nI u')) x_keptCursor x_parked (upd x_rowCount (3 * g) (nI (nt + 1))) (upd x_rowPosition (18 * g + nt) (nI a)) (upd x_rowTimes (18 * g + nt) tm) (upd x_rowDue (18 * g + nt) dv) x_time y_formed y_wanted (upd y_cursor g (nI u')) y_parked (upd y_many g (nI (nt + 1))) (upd y_where (8 * g + nt) (nI a)) (upd y_often (8 * g + nt) tm) (upd y_due (8 * g + nt) dv) y_time := by
  have hp := H.1
  subst hp
  refine es_RG_set H hg (fun z => absurd z hz) (es_Grp_at (es_Grp_cu h hu hc hg) hn hg ha d1 d2) (fun j hj => ?_) (fun j hj => ?_) (fun j a b d => ?_) (fun j a b d => ?_) (fun j e => ⟨pk_un e, rfl⟩) (fun j e _ => pk_un e)
  · rw [pk_un (by omega), pk_un (by omega), pk_un (by omega)]
    exact ⟨rfl, rfl, rfl⟩
  · rw [pk_un (by omega)]
  · rw [pk_un a]
  · rw [pk_un (by omega), pk_un (by omega), pk_un (by omega)]
    exact ⟨rfl, rfl, rfl⟩
theorem es_RG_cu {u' : Nat} (H : es_RG c f x_groupType x_cursor x_keptCursor x_parked x_rowCount x_rowPosition x_rowTimes x_rowDue x_time y_formed y_wanted y_cursor y_parked y_many y_where y_often y_due y_time) (hg : g < 2) (hz : y_formed g = 0 → nt = 0)
    (h : es_Grp c f g nt nw nk u k x_cursor x_keptCursor x_rowCount x_rowPosition x_rowTimes x_rowDue y_cursor y_many y_where y_often y_due)
    (hu : u ≤ u') (hc : u' ≤ c) : es_RG c f x_groupType (upd x_cursor g (nI u')) x_keptCursor x_parked x_rowCount x_rowPosition x_rowTimes x_rowDue x_time y_formed y_wanted (upd y_cursor g (nI u')) y_parked y_many y_where y_often y_due y_time := by
  have hp := H.1
  subst hp
  exact es_RG_set H hg hz (es_Grp_cu h hu hc hg) (fun j hj => ⟨rfl, rfl, rfl⟩) (fun j hj => rfl) (fun j a b d => rfl) (fun j a b d => ⟨rfl, rfl, rfl⟩) (fun j e => ⟨pk_un e, rfl⟩) (fun j e _ => pk_un e)
theorem ex_take107 {post : Int32 → SX → Prop} {a : Nat} {tm : Int32} (hg : g < 2) (ha : a < 2 ^ 31) (hn : x_rowCount (3 * g) = nI nt) (h6 : nt < 6)
    (hp : post (nI a) (x_records, x_removedCount, x_flushed, x_drafted, x_height, x_time, x_foundAt, x_recordStream, x_recordType, x_recordVersion, x_recordValue, x_originProjection, x_originPosition, x_originInstruction, x_joined, x_removed, x_eventCount, x_cutLevel, x_draftType, x_draftValue, x_ops, x_arguments, x_programLength, x_states, x_noted, x_stack, x_metHeight, x_groupType, x_cursor, x_keptCursor, x_parked, upd x_rowCount (3 * g) (nI (nt + 1)), upd x_rowPosition (18 * g + nt) (nI a), upd x_rowTimes (18 * g + nt) tm, upd x_rowDue (18 * g + nt) (x_time + 10))) :
    wX_take_107 post (nI (3 * g)) (nI a) tm x_records x_removedCount x_flushed x_drafted x_height x_time x_foundAt x_recordStream x_recordType x_recordVersion x_recordValue x_originProjection x_originPosition x_originInstruction x_joined x_removed x_eventCount x_cutLevel x_draftType x_draftValue x_ops x_arguments x_programLength x_states x_noted x_stack x_metHeight x_groupType x_cursor x_keptCursor x_parked x_rowCount x_rowPosition x_rowTimes x_rowDue := by
  have e1 : (nI (3 * g)).toNatClampNeg = 3 * g := nI_clamp (by omega)
  have v1 : vp_in (nI (3 * g)) 6 := vp_in_nI (by omega) (by decide)
  refine br_f (es_nm4 ha) ⟨v1, ?_⟩
  rw [e1, hn]
  refine ex_insert (b := 18 * g) (by omega) (by omega) hn (Nat.le_refl nt) h6 ?_
  have ei : nI (3 * g) * 6 + nI (nt + 1) - 1 = nI (18 * g + nt) := by
    rw [es_6, nI_add, es_s1 (by omega)]; congr 1; omega
  refine ⟨v1, ?_⟩
  rw [pk_us, ei, nI_clamp (by omega), es_ins_0 (Nat.le_refl _), es_ins_0 (Nat.le_refl _)]
  exact ⟨vp_in_nI (by omega) (by decide), nm_e hp⟩
theorem ex_isShownQ {post : Int32 → Prop} {a : Nat} (H : es_RL c f q x_records x_removedCount x_flushed x_recordStream x_recordType x_recordVersion x_recordValue x_originProjection x_originPosition x_originInstruction x_joined x_removed x_eventCount x_cutLevel y_count y_flushed y_calls y_isCut y_removed y_stream y_type y_from y_by y_value y_version y_on y_call) (ha : a < 2000) (h1 : es_S y_isCut y_stream y_value y_version c a → post 1) (h0 : ¬ es_S y_isCut y_stream y_value y_version c a → post 0) : wpX_isShown post (x_records, x_removedCount, x_flushed, x_drafted, x_height, x_time, x_foundAt, x_recordStream, x_recordType, x_recordVersion, x_recordValue, x_originProjection, x_originPosition, x_originInstruction, x_joined, x_removed, x_eventCount, x_cutLevel, x_draftType, x_draftValue, x_ops, x_arguments, x_programLength, x_states, x_noted, x_stack, x_metHeight, x_groupType, x_cursor, x_keptCursor, x_parked, x_rowCount, x_rowPosition, x_rowTimes, x_rowDue) (nI a) := by
  obtain ⟨rfl, rfl, rfl, rfl, rfl, rfl, rfl, rfl, rfl, rfl, rfl, rfl, rfl, hl⟩ := H
  exact ex_isShownL hl ha h1 h0
theorem ey_shownQ {post : Int32 → Prop} {a : Nat} (H : es_RL c f q x_records x_removedCount x_flushed x_recordStream x_recordType x_recordVersion x_recordValue x_originProjection x_originPosition x_originInstruction x_joined x_removed x_eventCount x_cutLevel y_count y_flushed y_calls y_isCut y_removed y_stream y_type y_from y_by y_value y_version y_on y_call) (ha : a < 2000) (h1 : es_S y_isCut y_stream y_value y_version c a → post 1) (h0 : ¬ es_S y_isCut y_stream y_value y_version c a → post 0) : wpY_shown post (y_count, y_flushed, y_calls, y_drafted, y_top, y_time, y_isCut, y_removed, y_stream, y_type, y_from, y_by, y_value, y_version, y_on, y_call, y_draftType, y_draftValue, y_op, y_with, y_length, y_height, y_torn, y_stack, y_position, y_cells, y_noted, y_wanted, y_formed, y_cursor, y_parked, y_where, y_often, y_due, y_many, y_found) (nI a) := by
  obtain ⟨rfl, rfl, rfl, rfl, rfl, rfl, rfl, rfl, rfl, rfl, rfl, rfl, rfl, hl⟩ := H
  exact ey_shownL hl ha h1 h0
/-- the hidden ones at the front of the WAITING row go -/
theorem em_pass (hg : g < 2) : ∀ m j, j + m = 6 → ∀ (u : SX) (v : SY) (nw : Nat), es_Q c f d L q u v → es_cnw u g = nI nw → nw ≤ m → ∃ (u' : SX) (v' : SY), es_Q c f d L q u' v' ∧ es_cnt u' g = es_cnt u g ∧ es_gty u' g = es_gty u g ∧
      (∀ post : SX → Prop, post u' → match u with | (x_records, x_removedCount, x_flushed, x_drafted, x_height, x_time, x_foundAt, x_recordStream, x_recordType, x_recordVersion, x_recordValue, x_originProjection, x_originPosition, x_originInstruction, x_joined, x_removed, x_eventCount, x_cutLevel, x_draftType, x_draftValue, x_ops, x_arguments, x_programLength, x_states, x_noted, x_stack, x_metHeight, x_groupType, x_cursor, x_keptCursor, x_parked, x_rowCount, x_rowPosition, x_rowTimes, x_rowDue) => wX_passHidden_2 post (nI (3 * g + 1)) (m + 1) (nI j) x_records x_removedCount x_flushed x_drafted x_height x_time x_foundAt x_recordStream x_recordType x_recordVersion x_recordValue x_originProjection x_originPosition x_originInstruction x_joined x_removed x_eventCount x_cutLevel x_draftType x_draftValue x_ops x_arguments x_programLength x_states x_noted x_stack x_metHeight x_groupType x_cursor x_keptCursor x_parked x_rowCount x_rowPosition x_rowTimes x_rowDue) ∧
      (∀ post : Int32 → SY → Prop, (match v' with | (y_count, y_flushed, y_calls, y_drafted, y_top, y_time, y_isCut, y_removed, y_stream, y_type, y_from, y_by, y_value, y_version, y_on, y_call, y_draftType, y_draftValue, y_op, y_with, y_length, y_height, y_torn, y_stack, y_position, y_cells, y_noted, y_wanted, y_formed, y_cursor, y_parked, y_where, y_often, y_due, y_many, y_found) => wY_take_79 post (nI g) (nI (16 + 8 * g)) y_count y_flushed y_calls y_drafted y_top y_time y_isCut y_removed y_stream y_type y_from y_by y_value y_version y_on y_call y_draftType y_draftValue y_op y_with y_length y_height y_torn y_stack y_position y_cells y_noted y_wanted y_formed y_cursor y_parked y_where y_often y_due y_many y_found) → match v with | (y_count, y_flushed, y_calls, y_drafted, y_top, y_time, y_isCut, y_removed, y_stream, y_type, y_from, y_by, y_value, y_version, y_on, y_call, y_draftType, y_draftValue, y_op, y_with, y_length, y_height, y_torn, y_stack, y_position, y_cells, y_noted, y_wanted, y_formed, y_cursor, y_parked, y_where, y_often, y_due, y_many, y_found) => wY_take_44 post (nI g) (nI (16 + 8 * g)) (m + 1) y_count y_flushed y_calls y_drafted y_top y_time y_isCut y_removed y_stream y_type y_from y_by y_value y_version y_on y_call y_draftType y_draftValue y_op y_with y_length y_height y_torn y_stack y_position y_cells y_noted y_wanted y_formed y_cursor y_parked y_where y_often y_due y_many y_found) := by
  intro m
  induction m with
  | zero =>
    intro j hj u v nw hQ hcnt hnw
    obtain ⟨x_records, x_removedCount, x_flushed, x_drafted, x_height, x_time, x_foundAt, x_recordStream, x_recordType, x_recordVersion, x_recordValue, x_originProjection, x_originPosition, x_originInstruction, x_joined, x_removed, x_eventCount, x_cutLevel, x_draftType, x_draftValue, x_ops, x_arguments, x_programLength, x_states, x_noted, x_stack, x_metHeight, x_groupType, x_cursor, x_keptCursor, x_parked, x_rowCount, x_rowPosition, x_rowTimes, x_rowDue⟩ := u
    obtain ⟨y_count, y_flushed, y_calls, y_drafted, y_top, y_time, y_isCut, y_removed, y_stream, y_type, y_from, y_by, y_value, y_version, y_on, y_call, y_draftType, y_draftValue, y_op, y_with, y_length, y_height, y_torn, y_stack, y_position, y_cells, y_noted, y_wanted, y_formed, y_cursor, y_parked, y_where, y_often, y_due, y_many, y_found⟩ := v
    obtain ⟨hfm, nt, nw', nk, w, l, hz, hgr⟩ := hQ.2.2.2.2.1.2.2 g hg
    have e1 : x_rowCount (3 * g + 1) = nI nw := hcnt
    have e0 : nw' = 0 := by
      rw [hgr.2.2.1.2.2.1] at e1
      have := es_inj e1 (by have := hgr.1.2.2.1; omega) (by omega)
      omega
    refine ⟨_, _, hQ, rfl, rfl, fun post hp => br_t ?_ hp, fun post hp => ?_⟩
    · exact nI_le (a := 6) (by omega) (by omega)
    · show wY_take_44 post (nI g) (nI (16 + 8 * g)) (0 + 1) y_count y_flushed y_calls y_drafted y_top y_time y_isCut y_removed y_stream y_type y_from y_by y_value y_version y_on y_call y_draftType y_draftValue y_op y_with y_length y_height y_torn y_stack y_position y_cells y_noted y_wanted y_formed y_cursor y_parked y_where y_often y_due y_many y_found
      refine ⟨by rw [es_2g]; exact vp_in_nI (by omega) (by decide), br_t ?_ hp⟩
      rw [es_2g, nI_clamp (by omega), hgr.2.2.1.2.2.2.1, e0]
      exact Int32.le_refl 0
  | succ m ih =>
    intro j hj u v nw hQ hcnt hnw
    obtain ⟨x_records, x_removedCount, x_flushed, x_drafted, x_height, x_time, x_foundAt, x_recordStream, x_recordType, x_recordVersion, x_recordValue, x_originProjection, x_originPosition, x_originInstruction, x_joined, x_removed, x_eventCount, x_cutLevel, x_draftType, x_draftValue, x_ops, x_arguments, x_programLength, x_states, x_noted, x_stack, x_metHeight, x_groupType, x_cursor, x_keptCursor, x_parked, x_rowCount, x_rowPosition, x_rowTimes, x_rowDue⟩ := u
    obtain ⟨y_count, y_flushed, y_calls, y_drafted, y_top, y_time, y_isCut, y_removed, y_stream, y_type, y_from, y_by, y_value, y_version, y_on, y_call, y_draftType, y_draftValue, y_op, y_with, y_length, y_height, y_torn, y_stack, y_position, y_cells, y_noted, y_wanted, y_formed, y_cursor, y_parked, y_where, y_often, y_due, y_many, y_found⟩ := v
    have hQ0 := hQ
    obtain ⟨hL, hD, hP, hS, hG, hF⟩ := hQ
    obtain ⟨hfm, nt, nw', nk, w, l, hz, hgr⟩ := hG.2.2 g hg
    have e1 : x_rowCount (3 * g + 1) = nI nw := hcnt
    have e0 : nw' = nw := by
      rw [hgr.2.2.1.2.2.1] at e1
      exact es_inj e1 (by have := hgr.1.2.2.1; omega) (by omega)
    subst e0
    have hn6 := hgr.1.2.2.1
    have hj6 : ¬ (6 : Int32) ≤ nI j := nI_ge (b := 6) (by omega) (by decide)
    have vr : vp_in (nI (3 * g + 1)) 6 := vp_in_nI (by omega) (by decide)
    have cr : (nI (3 * g + 1)).toNatClampNeg = 3 * g + 1 := nI_clamp (by omega)
    have vy : vp_in (2 + nI g) 6 := by rw [es_2g]; exact vp_in_nI (by omega) (by decide)
    have cy : (2 + nI g).toNatClampNeg = 2 + g := by rw [es_2g, nI_clamp (by omega)]
    have hmy := hgr.2.2.1.2.2.2.1
    by_cases n0 : nw' = 0
    · refine ⟨_, _, hQ0, rfl, rfl, fun post hp => br_f hj6 ⟨vr, br_t ?_ hp⟩, fun post hp => ?_⟩
      · rw [cr, e1, n0]; rfl
      · show wY_take_44 post (nI g) (nI (16 + 8 * g)) (m + 1 + 1) y_count y_flushed y_calls y_drafted y_top y_time y_isCut y_removed y_stream y_type y_from y_by y_value y_version y_on y_call y_draftType y_draftValue y_op y_with y_length y_height y_torn y_stack y_position y_cells y_noted y_wanted y_formed y_cursor y_parked y_where y_often y_due y_many y_found
        refine ⟨vy, br_t ?_ hp⟩
        rw [cy, hmy, n0]
        exact Int32.le_refl 0
    · have xn : ¬ x_rowCount (nI (3 * g + 1)).toNatClampNeg = 0 := by
        rw [cr, e1]; exact fun z => n0 ((es_eq0 (by omega)).mp z)
      have yn : ¬ y_many (2 + nI g).toNatClampNeg ≤ 0 := by
        rw [cy, hmy]; exact nI_nle (by omega) (by omega)
      have cw : nI (3 * g + 1) * 6 = nI (18 * g + 6) := by rw [es_6]; congr 1; omega
      have vw : vp_in (nI (3 * g + 1) * 6) 36 := by rw [cw]; exact vp_in_nI (by omega) (by decide)
      have dw : (nI (3 * g + 1) * 6).toNatClampNeg = 18 * g + 6 := by rw [cw, nI_clamp (by omega)]
      have v16 : vp_in (nI (16 + 8 * g)) 64 := vp_in_nI (by omega) (by decide)
      have c16 : (nI (16 + 8 * g)).toNatClampNeg = 16 + 8 * g := nI_clamp (by omega)
      obtain ⟨⟨a, ha, ea⟩, hwh, hof⟩ := hgr.2.2.2.2.2.1 0 (by omega)
      rw [Nat.add_zero] at ea hwh hof
      rw [Nat.add_zero] at hwh hof
      have hac : a < 2000 := by have := hgr.1.1; have := hL.2.2.2.2.2.2.2.2.2.2.2.2.2.1.1; omega
      by_cases hS' : es_S y_isCut y_stream y_value y_version c a
      · refine ⟨_, _, hQ0, rfl, rfl, fun post hp => br_f hj6 ⟨vr, br_f xn ⟨vw, ?_⟩⟩, fun post hp => ?_⟩
        · rw [dw, ea]
          exact ex_isShownQ hL hac (fun _ => br_f (by decide) hp) (fun z => absurd hS' z)
        · show wY_take_44 post (nI g) (nI (16 + 8 * g)) (m + 1 + 1) y_count y_flushed y_calls y_drafted y_top y_time y_isCut y_removed y_stream y_type y_from y_by y_value y_version y_on y_call y_draftType y_draftValue y_op y_with y_length y_height y_torn y_stack y_position y_cells y_noted y_wanted y_formed y_cursor y_parked y_where y_often y_due y_many y_found
          refine ⟨vy, br_f yn ⟨v16, ?_⟩⟩
          rw [c16, hwh, ea]
          exact ey_shownQ hL hac (fun _ => br_f (by decide) hp) (fun z => absurd hS' z)
      · have hG' := es_RG_delW hG hg hz (i := 0) (by omega) hgr
        obtain ⟨u', v', hQ', hc1, hc2, hX, hY⟩ := ih (j + 1) (by omega) (x_records, x_removedCount, x_flushed, x_drafted, x_height, x_time, x_foundAt, x_recordStream, x_recordType, x_recordVersion, x_recordValue, x_originProjection, x_originPosition, x_originInstruction, x_joined, x_removed, x_eventCount, x_cutLevel, x_draftType, x_draftValue, x_ops, x_arguments, x_programLength, x_states, x_noted, x_stack, x_metHeight, x_groupType, x_cursor, x_keptCursor, x_parked, upd x_rowCount (3 * g + 1) (nI (nw' - 1)), es_del x_rowPosition (18 * g + 6 + 0) (18 * g + 6 + (nw' - 1)), es_del x_rowTimes (18 * g + 6 + 0) (18 * g + 6 + (nw' - 1)), es_del x_rowDue (18 * g + 6 + 0) (18 * g + 6 + (nw' - 1))) (y_count, y_flushed, y_calls, y_drafted, y_top, y_time, y_isCut, y_removed, y_stream, y_type, y_from, y_by, y_value, y_version, y_on, y_call, y_draftType, y_draftValue, y_op, y_with, y_length, y_height, y_torn, y_stack, y_position, y_cells, y_noted, y_wanted, y_formed, y_cursor, y_parked, es_del y_where (16 + 8 * g + 0) (16 + 8 * g + (nw' - 1)), es_del y_often (16 + 8 * g + 0) (16 + 8 * g + (nw' - 1)), es_del y_due (16 + 8 * g + 0) (16 + 8 * g + (nw' - 1)), upd y_many (2 + g) (nI (nw' - 1)), y_found) (nw' - 1) ⟨hL, hD, hP, hS, hG', hF⟩ (by show upd x_rowCount (3 * g + 1) (nI (nw' - 1)) (3 * g + 1) = _; rw [pk_us]) (by omega)
        refine ⟨u', v', hQ', hc1.trans ?_, (show es_gty u' g = x_groupType g from hc2), fun post hp => br_f hj6 ⟨vr, br_f xn ⟨vw, ?_⟩⟩, fun post hp => ?_⟩
        · show upd x_rowCount (3 * g + 1) (nI (nw' - 1)) (3 * g) = x_rowCount (3 * g)
          rw [pk_un (by omega)]
        · rw [dw, ea]
          exact ex_isShownQ hL hac (fun z => absurd z hS') (fun _ => br_t rfl (ex_remove (b := 18 * g + 6) (k := 0) (by omega) (by omega) e1 (by omega) (by omega) (nm_r (nI_1 _) (hX post hp))))
        · show wY_take_44 post (nI g) (nI (16 + 8 * g)) (m + 1 + 1) y_count y_flushed y_calls y_drafted y_top y_time y_isCut y_removed y_stream y_type y_from y_by y_value y_version y_on y_call y_draftType y_draftValue y_op y_with y_length y_height y_torn y_stack y_position y_cells y_noted y_wanted y_formed y_cursor y_parked y_where y_often y_due y_many y_found
          refine ⟨vy, br_f yn ⟨v16, ?_⟩⟩
          rw [c16, hwh, ea]
          refine ey_shownQ hL hac (fun z => absurd z hS') (fun _ => br_t rfl ?_)
          rw [es_2g]
          exact ey_strike (b := 16 + 8 * g) (k := 0) (by omega) (by omega) hmy (by omega) (by omega) (hY post hp)
/-- an event that the group wants -/
def es_wt (cut str val ver ty : Nat → Int32) (c t a : Nat) : Prop := es_S cut str val ver c a ∧ (t = 8 ∨ ty a = nI t)
theorem ex_log (H : es_Log c f q cut rm str ty fr byi val ver onn call oi jn ec cl) {post : Int32 → SX → Prop} {t : Nat} (hg : g < 2) (ht : t ≤ 8) (hgt : x_groupType g = nI t) (hcu : x_cursor g = nI u) (hu : u ≤ c)
    (hF : ∀ a, u ≤ a → a < c → es_wt cut str val ver ty c t a → (∀ j, u ≤ j → j < a → ¬ es_wt cut str val ver ty c t j) → post (nI a) (nI c, x_removedCount, nI f, x_drafted, x_height, x_time, x_foundAt, str, es_T cut ty, es_V cut ver val, es_W cut val, fr, onn, oi, jn, rm, ec, cl, x_draftType, x_draftValue, x_ops, x_arguments, x_programLength, x_states, x_noted, x_stack, x_metHeight, x_groupType, upd x_cursor g (nI (a + 1)), x_keptCursor, x_parked, x_rowCount, x_rowPosition, x_rowTimes, x_rowDue))
    (hN : (∀ j, u ≤ j → j < c → ¬ es_wt cut str val ver ty c t j) → post (-4) (nI c, x_removedCount, nI f, x_drafted, x_height, x_time, x_foundAt, str, es_T cut ty, es_V cut ver val, es_W cut val, fr, onn, oi, jn, rm, ec, cl, x_draftType, x_draftValue, x_ops, x_arguments, x_programLength, x_states, x_noted, x_stack, x_metHeight, x_groupType, upd x_cursor g (nI c), x_keptCursor, x_parked, x_rowCount, x_rowPosition, x_rowTimes, x_rowDue)) : wpX_takeFromLog post (nI c, x_removedCount, nI f, x_drafted, x_height, x_time, x_foundAt, str, es_T cut ty, es_V cut ver val, es_W cut val, fr, onn, oi, jn, rm, ec, cl, x_draftType, x_draftValue, x_ops, x_arguments, x_programLength, x_states, x_noted, x_stack, x_metHeight, x_groupType, x_cursor, x_keptCursor, x_parked, x_rowCount, x_rowPosition, x_rowTimes, x_rowDue) (nI g) := by
  have hc := H.1.1
  have cg : (nI g).toNatClampNeg = g := nI_clamp (by omega)
  have vg : vp_in (nI g) 2 := vp_in_nI hg (by decide)
  refine ⟨vg, nm_r (e' := nI u) (by rw [cg, hcu]) ?_⟩
  refine pk_loop (fun n i (_ : Unit) => wX_takeFromLog_7 post (nI g) (nI c) x_removedCount (nI f) x_drafted x_height x_time x_foundAt str (es_T cut ty) (es_V cut ver val) (es_W cut val) fr onn oi jn rm ec cl x_draftType x_draftValue x_ops x_arguments x_programLength x_states x_noted x_stack x_metHeight x_groupType x_cursor x_keptCursor x_parked x_rowCount x_rowPosition x_rowTimes x_rowDue n (nI i)) (fun i _ => u ≤ i ∧ ∀ j, u ≤ j → j < i → ¬ es_wt cut str val ver ty c t j) c u () hu ⟨Nat.le_refl u, fun j h1 h2 => by omega⟩ ?_ ?_
  · intro n _ hs
    exact br_t (nI_le (Nat.le_refl c) (by omega)) ⟨vg, nm_r (e' := upd x_cursor g (nI c)) (by rw [cg]) (hN hs.2)⟩
  · intro n i _ hi hs ih
    have nx : ¬ es_wt cut str val ver ty c t i → (u ≤ i + 1 ∧ ∀ j, u ≤ j → j < i + 1 → ¬ es_wt cut str val ver ty c t j) := fun z => ⟨by omega, fun j h1 h2 => by
      by_cases e : j = i
      · rw [e]; exact z
      · exact hs.2 j h1 (by omega)⟩
    have fin : es_wt cut str val ver ty c t i → wX_takeFromLog_49 post (nI g) (nI i) (nI c) x_removedCount (nI f) x_drafted x_height x_time x_foundAt str (es_T cut ty) (es_V cut ver val) (es_W cut val) fr onn oi jn rm ec cl x_draftType x_draftValue x_ops x_arguments x_programLength x_states x_noted x_stack x_metHeight x_groupType x_cursor x_keptCursor x_parked x_rowCount x_rowPosition x_rowTimes x_rowDue := fun z =>
      ⟨vg, nm_r (e' := upd x_cursor g (nI (i + 1))) (by rw [cg, nI_1]) (hF i hs.1 hi z hs.2)⟩
    refine br_f (nI_ge hi (by omega)) (ex_isShownL H (by omega) (fun z => br_f (by decide) ⟨vg, ?_⟩) (fun z => br_t rfl (nm_r (nI_1 _) (ih () (nx (fun w => z w.1))))))
    rw [cg, hgt, nI_clamp (by omega), es_T0 z.1]
    by_cases t8 : t = 8
    · exact br_t (by rw [t8]; rfl) (fin ⟨z, Or.inl t8⟩)
    · refine br_f (fun w => t8 (es_inj (b := 8) w (by omega) (by decide))) ⟨vp_in_nI (by omega) (by decide), vg, br_c (fun w => fin ⟨z, Or.inr w⟩) (fun w => nm_r (nI_1 _) (ih () (nx (fun y => ?_))))⟩
      rcases y.2 with y | y
      · exact t8 y
      · exact w y
theorem ey_log (H : es_Log c f q cut rm str ty fr byi val ver onn call oi jn ec cl) {post : Int32 → SY → Prop} {t : Nat} (hg : g < 2) (ht : t ≤ 8) (hwa : y_wanted g = nI t) (hcu : y_cursor g = nI u) (hu : u ≤ c)
    (hF : ∀ a, u ≤ a → a < c → es_wt cut str val ver ty c t a → (∀ j, u ≤ j → j < a → ¬ es_wt cut str val ver ty c t j) → wY_take_183 post (nI g) (nI a) (nI c) (nI f) (nI q) y_drafted y_top y_time cut rm str ty fr byi val ver onn call y_draftType y_draftValue y_op y_with y_length y_height y_torn y_stack y_position y_cells y_noted y_wanted y_formed (upd y_cursor g (nI (a + 1))) y_parked y_where y_often y_due y_many y_found)
    (hN : (∀ j, u ≤ j → j < c → ¬ es_wt cut str val ver ty c t j) → post (-4) (nI c, nI f, nI q, y_drafted, y_top, y_time, cut, rm, str, ty, fr, byi, val, ver, onn, call, y_draftType, y_draftValue, y_op, y_with, y_length, y_height, y_torn, y_stack, y_position, y_cells, y_noted, y_wanted, y_formed, upd y_cursor g (nI c), y_parked, y_where, y_often, y_due, y_many, y_found)) : ∃ n, wY_take_124 post (nI g) (nI c) (nI f) (nI q) y_drafted y_top y_time n cut rm str ty fr byi val ver onn call y_draftType y_draftValue y_op y_with y_length y_height y_torn y_stack y_position y_cells y_noted y_wanted y_formed y_cursor y_parked y_where y_often y_due y_many y_found := by
  have hc := H.1.1
  have cg : (nI g).toNatClampNeg = g := nI_clamp (by omega)
  have vg : vp_in (nI g) 2 := vp_in_nI hg (by decide)
  have vg4 : vp_in (nI g) 4 := vp_in_nI (by omega) (by decide)
  have e0 : upd y_cursor g (nI u) = y_cursor := es_upd0 hcu
  have key : ∃ n, wY_take_124 post (nI g) (nI c) (nI f) (nI q) y_drafted y_top y_time n cut rm str ty fr byi val ver onn call y_draftType y_draftValue y_op y_with y_length y_height y_torn y_stack y_position y_cells y_noted y_wanted y_formed (upd y_cursor g (nI u)) y_parked y_where y_often y_due y_many y_found := by
    refine pk_loop (fun n i (_ : Unit) => wY_take_124 post (nI g) (nI c) (nI f) (nI q) y_drafted y_top y_time n cut rm str ty fr byi val ver onn call y_draftType y_draftValue y_op y_with y_length y_height y_torn y_stack y_position y_cells y_noted y_wanted y_formed (upd y_cursor g (nI i)) y_parked y_where y_often y_due y_many y_found) (fun i _ => u ≤ i ∧ ∀ j, u ≤ j → j < i → ¬ es_wt cut str val ver ty c t j) c u () hu ⟨Nat.le_refl u, fun j h1 h2 => by omega⟩ ?_ ?_
    · intro n _ hs
      refine ⟨vg4, br_t ?_ (hN hs.2)⟩
      rw [cg, pk_us]; exact nI_le (Nat.le_refl c) (by omega)
    · intro n i _ hi hs ih
      have nx : ¬ es_wt cut str val ver ty c t i → (u ≤ i + 1 ∧ ∀ j, u ≤ j → j < i + 1 → ¬ es_wt cut str val ver ty c t j) := fun z => ⟨by omega, fun j h1 h2 => by
        by_cases e : j = i
        · rw [e]; exact z
        · exact hs.2 j h1 (by omega)⟩
      have fin : es_wt cut str val ver ty c t i → wY_take_183 post (nI g) (nI i) (nI c) (nI f) (nI q) y_drafted y_top y_time cut rm str ty fr byi val ver onn call y_draftType y_draftValue y_op y_with y_length y_height y_torn y_stack y_position y_cells y_noted y_wanted y_formed (upd y_cursor g (nI (i + 1))) y_parked y_where y_often y_due y_many y_found := fun z => hF i hs.1 hi z hs.2
      refine ⟨vg4, br_f (by rw [cg, pk_us]; exact nI_ge hi (by omega)) ⟨vg4, vg4, nm_r (e' := upd y_cursor g (nI (i + 1))) (by rw [cg, pk_us, nI_1, es_uu]) (nm_r (e' := nI i) (by rw [cg, pk_us]) ?_)⟩⟩
      refine ey_shownL H (by omega) (fun z => br_f (by decide) ⟨vg, ?_⟩) (fun z => br_t rfl (ih () (nx (fun w => z w.1))))
      rw [cg, hwa, nI_clamp (by omega)]
      by_cases t8 : t = 8
      · exact br_t (by rw [t8]; rfl) (fin ⟨z, Or.inl t8⟩)
      · refine br_f (fun w => t8 (es_inj (b := 8) w (by omega) (by decide))) ⟨vp_in_nI (by omega) (by decide), vg, br_c (fun w => fin ⟨z, Or.inr w⟩) (fun w => ih () (nx (fun y => ?_)))⟩
        rcases y.2 with y | y
        · exact t8 y
        · exact w y
  rw [e0] at key
  exact key
end
end
section
section
variable {x_records x_removedCount x_flushed x_drafted x_height x_time x_foundAt : Int32} {x_recordStream x_recordType x_recordVersion x_recordValue x_originProjection x_originPosition x_originInstruction x_joined x_removed x_eventCount x_cutLevel x_draftType x_draftValue x_ops x_arguments x_programLength x_states x_noted x_stack x_metHeight x_groupType x_cursor x_keptCursor x_parked x_rowCount x_rowPosition x_rowTimes x_rowDue : Nat → Int32} {y_count y_flushed y_calls y_drafted y_top y_time : Int32} {y_isCut y_removed y_stream y_type y_from y_by y_value y_version y_on y_call y_draftType y_draftValue y_op y_with y_length y_height y_torn y_stack y_position y_cells y_noted y_wanted y_formed y_cursor y_parked y_where y_often y_due y_many y_found : Nat → Int32} {c f q : Nat} {cut rm str ty fr byi val ver onn call oi jn ec cl : Nat → Int32} {d : Nat} {L : Nat → Nat} {g nt nw nk u k : Nat}
/-- behind the hidden ones: from a WAITING event or from the log -/
theorem em_take2 {P : Int32 → SX → SY → Prop} (H : es_Q c f d L q (x_records, x_removedCount, x_flushed, x_drafted, x_height, x_time, x_foundAt, x_recordStream, x_recordType, x_recordVersion, x_recordValue, x_originProjection, x_originPosition, x_originInstruction, x_joined, x_removed, x_eventCount, x_cutLevel, x_draftType, x_draftValue, x_ops, x_arguments, x_programLength, x_states, x_noted, x_stack, x_metHeight, x_groupType, x_cursor, x_keptCursor, x_parked, x_rowCount, x_rowPosition, x_rowTimes, x_rowDue) (y_count, y_flushed, y_calls, y_drafted, y_top, y_time, y_isCut, y_removed, y_stream, y_type, y_from, y_by, y_value, y_version, y_on, y_call, y_draftType, y_draftValue, y_op, y_with, y_length, y_height, y_torn, y_stack, y_position, y_cells, y_noted, y_wanted, y_formed, y_cursor, y_parked, y_where, y_often, y_due, y_many, y_found)) (hg : g < 2) (hcnt : es_cnt (x_records, x_removedCount, x_flushed, x_drafted, x_height, x_time, x_foundAt, x_recordStream, x_recordType, x_recordVersion, x_recordValue, x_originProjection, x_originPosition, x_originInstruction, x_joined, x_removed, x_eventCount, x_cutLevel, x_draftType, x_draftValue, x_ops, x_arguments, x_programLength, x_states, x_noted, x_stack, x_metHeight, x_groupType, x_cursor, x_keptCursor, x_parked, x_rowCount, x_rowPosition, x_rowTimes, x_rowDue) g = nI nt) (h6 : nt < 6) (hgt : ¬ es_gty (x_records, x_removedCount, x_flushed, x_drafted, x_height, x_time, x_foundAt, x_recordStream, x_recordType, x_recordVersion, x_recordValue, x_originProjection, x_originPosition, x_originInstruction, x_joined, x_removed, x_eventCount, x_cutLevel, x_draftType, x_draftValue, x_ops, x_arguments, x_programLength, x_states, x_noted, x_stack, x_metHeight, x_groupType, x_cursor, x_keptCursor, x_parked, x_rowCount, x_rowPosition, x_rowTimes, x_rowDue) g = -1)
    (WY : (Int32 → SY → Prop) → Prop) (hW : ∀ post : Int32 → SY → Prop, wY_take_79 post (nI g) (nI (16 + 8 * g)) y_count y_flushed y_calls y_drafted y_top y_time y_isCut y_removed y_stream y_type y_from y_by y_value y_version y_on y_call y_draftType y_draftValue y_op y_with y_length y_height y_torn y_stack y_position y_cells y_noted y_wanted y_formed y_cursor y_parked y_where y_often y_due y_many y_found → WY post)
    (hP : ∀ r u' v', es_Q c f d L q u' v' → P r u' v') :
    vp_in (nI (3 * g + 1)) 6 ∧ ((x_rowCount (nI (3 * g + 1)).toNatClampNeg ≤ 0 → wpX_takeFromLog (fun r_47 u => match u with | (x_records, x_removedCount, x_flushed, x_drafted, x_height, x_time, x_foundAt, x_recordStream, x_recordType, x_recordVersion, x_recordValue, x_originProjection, x_originPosition, x_originInstruction, x_joined, x_removed, x_eventCount, x_cutLevel, x_draftType, x_draftValue, x_ops, x_arguments, x_programLength, x_states, x_noted, x_stack, x_metHeight, x_groupType, x_cursor, x_keptCursor, x_parked, x_rowCount, x_rowPosition, x_rowTimes, x_rowDue) => wX_take_107 (fun r u' => WY (fun r' v' => r' = r ∧ P r u' v')) (nI (3 * g)) r_47 1 x_records x_removedCount x_flushed x_drafted x_height x_time x_foundAt x_recordStream x_recordType x_recordVersion x_recordValue x_originProjection x_originPosition x_originInstruction x_joined x_removed x_eventCount x_cutLevel x_draftType x_draftValue x_ops x_arguments x_programLength x_states x_noted x_stack x_metHeight x_groupType x_cursor x_keptCursor x_parked x_rowCount x_rowPosition x_rowTimes x_rowDue) (x_records, x_removedCount, x_flushed, x_drafted, x_height, x_time, x_foundAt, x_recordStream, x_recordType, x_recordVersion, x_recordValue, x_originProjection, x_originPosition, x_originInstruction, x_joined, x_removed, x_eventCount, x_cutLevel, x_draftType, x_draftValue, x_ops, x_arguments, x_programLength, x_states, x_noted, x_stack, x_metHeight, x_groupType, x_cursor, x_keptCursor, x_parked, x_rowCount, x_rowPosition, x_rowTimes, x_rowDue) (nI g)) ∧
      (¬ x_rowCount (nI (3 * g + 1)).toNatClampNeg ≤ 0 → vp_in (nI (3 * g + 1) * 6) 36 ∧ ∀ x4, x4 = x_rowPosition (nI (3 * g + 1) * 6).toNatClampNeg → (vp_in (nI (3 * g + 1) * 6) 36 ∧ ∀ x5, x5 = x_rowTimes (nI (3 * g + 1) * 6).toNatClampNeg + 1 → wpX_removeEntry (fun u => match u with | (x_records, x_removedCount, x_flushed, x_drafted, x_height, x_time, x_foundAt, x_recordStream, x_recordType, x_recordVersion, x_recordValue, x_originProjection, x_originPosition, x_originInstruction, x_joined, x_removed, x_eventCount, x_cutLevel, x_draftType, x_draftValue, x_ops, x_arguments, x_programLength, x_states, x_noted, x_stack, x_metHeight, x_groupType, x_cursor, x_keptCursor, x_parked, x_rowCount, x_rowPosition, x_rowTimes, x_rowDue) => wX_take_107 (fun r u' => WY (fun r' v' => r' = r ∧ P r u' v')) (nI (3 * g)) x4 x5 x_records x_removedCount x_flushed x_drafted x_height x_time x_foundAt x_recordStream x_recordType x_recordVersion x_recordValue x_originProjection x_originPosition x_originInstruction x_joined x_removed x_eventCount x_cutLevel x_draftType x_draftValue x_ops x_arguments x_programLength x_states x_noted x_stack x_metHeight x_groupType x_cursor x_keptCursor x_parked x_rowCount x_rowPosition x_rowTimes x_rowDue) (x_records, x_removedCount, x_flushed, x_drafted, x_height, x_time, x_foundAt, x_recordStream, x_recordType, x_recordVersion, x_recordValue, x_originProjection, x_originPosition, x_originInstruction, x_joined, x_removed, x_eventCount, x_cutLevel, x_draftType, x_draftValue, x_ops, x_arguments, x_programLength, x_states, x_noted, x_stack, x_metHeight, x_groupType, x_cursor, x_keptCursor, x_parked, x_rowCount, x_rowPosition, x_rowTimes, x_rowDue) (nI (3 * g + 1)) 0))) := by
  obtain ⟨hL, hD, hPr, hS, hG, hF⟩ := H
  have hcnt : x_rowCount (3 * g) = nI nt := hcnt
  have hgt : ¬ x_groupType g = -1 := hgt
  obtain ⟨hfm, nt', nw, nk, w, l, hz, hgr⟩ := hG.2.2 g hg
  have hn6 := hgr.1.2.2.1
  have e0 : nt' = nt := by
    rw [hgr.2.2.1.1] at hcnt
    exact es_inj hcnt (by omega) (by omega)
  subst e0
  have hfo : ¬ y_formed g = 0 := fun z => hgt ((es_Frm_f hfm).mpr z)
  have hmt := hgr.2.2.1.2.1
  have hmy := hgr.2.2.1.2.2.2.1
  have hmx := hgr.2.2.1.2.2.1
  have vr : vp_in (nI (3 * g + 1)) 6 := vp_in_nI (by omega) (by decide)
  have cr : (nI (3 * g + 1)).toNatClampNeg = 3 * g + 1 := nI_clamp (by omega)
  have vy : vp_in (2 + nI g) 6 := by rw [es_2g]; exact vp_in_nI (by omega) (by decide)
  have cy : (2 + nI g).toNatClampNeg = 2 + g := by rw [es_2g, nI_clamp (by omega)]
  have hc2 : c ≤ 2000 := hL.2.2.2.2.2.2.2.2.2.2.2.2.2.1.1
  refine ⟨vr, ?_⟩
  by_cases n0 : nw = 0
  · refine br_t (by rw [cr, hmx, n0]; exact Int32.le_refl 0) ?_
    have ym : y_many (2 + nI g).toNatClampNeg ≤ 0 := by rw [cy, hmy, n0]; exact Int32.le_refl 0
    rcases hfm with ⟨h1, _⟩ | ⟨_, t, ht, h2, h3⟩
    · exact absurd h1 hfo
    · have hcx := hgr.2.1.1
      have hcy := hgr.2.1.2.1
      have hu := hgr.1.1
      have hpos : ∀ i, i < nt' → ∀ a, w ≤ a → a < 2000 → ¬ x_rowPosition (18 * g + i) = nI a := by
        intro i hi a ha ha2 e
        obtain ⟨⟨b, hb, eb⟩, _⟩ := hgr.2.2.2.1 i hi
        rw [eb] at e
        have := es_inj e (by omega) (by omega)
        omega
      have hL0 := hL
      obtain ⟨rfl, rfl, rfl, rfl, rfl, rfl, rfl, rfl, rfl, rfl, rfl, rfl, rfl, hl⟩ := hL
      refine ex_log hl hg ht h2 hcx hu (fun a g1 g2 g3 g4 => ?_) (fun gN => ?_)
      · refine ex_take107 hg (by omega) hcnt h6 (hW _ ⟨vy, br_t ym ?_⟩)
        refine ey_log hl hg ht h3 hcy hu (fun b e1 e2 e3 e4 => ?_) (fun e => absurd g3 (e a g1 g2))
        have := es_fstu g3 g1 g4 e3 e1 e4
        subst this
        refine ey_lend hg hmt h6 ⟨rfl, hP _ _ _ ⟨hL0, hD, hPr, hS, ?_, hF⟩⟩
        have hG' := es_RG_at (a := a) (u' := a + 1) (tm := 1) (dv := x_time + 10) hG hg hfo hgr (by omega) (by omega) (by omega) (by omega) (fun i hi => hpos i hi a g1 (by omega)) (fun i hi => by omega)
        have ht := hG.2.1
        subst ht
        exact hG'
      · refine br_t rfl (hW _ ⟨vy, br_t ym ?_⟩)
        refine ey_log hl hg ht h3 hcy hu (fun b e1 e2 e3 e4 => absurd e3 (gN b e1 e2)) (fun _ => ⟨rfl, hP _ _ _ ⟨hL0, hD, hPr, hS, es_RG_cu hG hg hz hgr hu (Nat.le_refl c), hF⟩⟩)
  · have cw : nI (3 * g + 1) * 6 = nI (18 * g + 6) := by rw [es_6]; congr 1; omega
    have vw : vp_in (nI (3 * g + 1) * 6) 36 := by rw [cw]; exact vp_in_nI (by omega) (by decide)
    have dw : (nI (3 * g + 1) * 6).toNatClampNeg = 18 * g + 6 := by rw [cw, nI_clamp (by omega)]
    have v16 : vp_in (nI (16 + 8 * g)) 64 := vp_in_nI (by omega) (by decide)
    have c16 : (nI (16 + 8 * g)).toNatClampNeg = 16 + 8 * g := nI_clamp (by omega)
    obtain ⟨⟨a, ha, ea⟩, hwh, hof⟩ := hgr.2.2.2.2.2.1 0 (by omega)
    rw [Nat.add_zero] at ea hwh hof
    rw [Nat.add_zero] at hwh hof
    have hu := hgr.1.1
    have xn : ¬ x_rowCount (nI (3 * g + 1)).toNatClampNeg ≤ 0 := by rw [cr, hmx]; exact nI_nle (by omega) (by omega)
    have yn : ¬ y_many (2 + nI g).toNatClampNeg ≤ 0 := by rw [cy, hmy]; exact nI_nle (by omega) (by omega)
    have hG1 := es_RG_delW hG hg hz (i := 0) (by omega) hgr
    have hgr1 := es_Grp_dw hgr (i := 0) (by omega) hg
    have hd1 : ∀ i, i < nt' → ¬ es_del x_rowPosition (18 * g + 6 + 0) (18 * g + 6 + (nw - 1)) (18 * g + i) = nI a := by
      intro i hi e
      rw [es_del_o (by omega), ← ea] at e
      exact hgr.2.2.2.2.2.2.2.2.2.1 i 0 hi (by omega) e
    have hd2 : ∀ i, i < nw - 1 → ¬ es_del x_rowPosition (18 * g + 6 + 0) (18 * g + 6 + (nw - 1)) (18 * g + 6 + i) = nI a := by
      intro i hi e
      obtain ⟨j', b1, b2, b3, b4, b5⟩ := es_del_w (b := 18 * g + 6) (k := 0) (n := nw) x_rowPosition (by omega) i hi
      rw [b5, ← ea] at e
      exact b2 (hgr.2.2.2.2.2.2.2.2.1 j' 0 b1 (by omega) e)
    have hG2 := es_RG_at (a := a) (u' := w) (tm := x_rowTimes (18 * g + 6) + 1) (dv := x_time + 10) hG1 hg hfo hgr1 (by omega) (Nat.le_refl w) hu ha hd1 hd2
    rw [es_upd0 hgr.2.1.1, es_upd0 hgr.2.1.2.1] at hG2
    have ht := hG.2.1
    subst ht
    refine br_f xn ⟨vw, nm_r (e' := nI a) (by rw [dw, ea]) ⟨vw, nm_r (e' := x_rowTimes (18 * g + 6) + 1) (by rw [dw]) ?_⟩⟩
    refine ex_remove (b := 18 * g + 6) (k := 0) (by omega) (by omega) hmx (by omega) (by omega) ?_
    refine ex_take107 hg (by omega) (by rw [pk_un (by omega)]; exact hcnt) h6 (hW _ ⟨vy, br_f yn ⟨v16, nm_r (e' := nI a) (by rw [c16, hwh, ea]) ⟨v16, nm_r (e' := x_rowTimes (18 * g + 6)) (by rw [c16, hof]) ?_⟩⟩⟩)
    rw [es_2g]
    refine ey_strike (b := 16 + 8 * g) (k := 0) (by omega) (by omega) hmy (by omega) (by omega) ?_
    refine ey_lend hg (by rw [pk_un (by omega)]; exact hmt) h6 ⟨rfl, hP _ _ _ ⟨hL, hD, hPr, hS, hG2, hF⟩⟩
theorem i_vc_take {k : Nat} {u : SX} {v : SY} (I : i_Rel k u v) (hk : k + 4 ≤ 2048) (v1 : Int32) : wpX_take (fun r u' => wpY_take (fun r' v' => r' = r ∧ i_Rel (k + 4) u' v') v v1) u v1 := by
  obtain ⟨x_records, x_removedCount, x_flushed, x_drafted, x_height, x_time, x_foundAt, x_recordStream, x_recordType, x_recordVersion, x_recordValue, x_originProjection, x_originPosition, x_originInstruction, x_joined, x_removed, x_eventCount, x_cutLevel, x_draftType, x_draftValue, x_ops, x_arguments, x_programLength, x_states, x_noted, x_stack, x_metHeight, x_groupType, x_cursor, x_keptCursor, x_parked, x_rowCount, x_rowPosition, x_rowTimes, x_rowDue⟩ := u
  obtain ⟨y_count, y_flushed, y_calls, y_drafted, y_top, y_time, y_isCut, y_removed, y_stream, y_type, y_from, y_by, y_value, y_version, y_on, y_call, y_draftType, y_draftValue, y_op, y_with, y_length, y_height, y_torn, y_stack, y_position, y_cells, y_noted, y_wanted, y_formed, y_cursor, y_parked, y_where, y_often, y_due, y_many, y_found⟩ := v
  have J := i_up I
  obtain ⟨q, hq, c, f, d, L, hQ⟩ := I
  dsimp only [wpX_take]
  rcases es_rg v1 2 (by decide) with h | ⟨g, hg, rfl⟩
  · by_cases z : v1 < 0
    · refine br_t z ?_
      dsimp only [wpY_take]
      exact ey_outT 2 rfl h (br_f (by decide) ⟨rfl, J⟩)
    · refine br_f z (br_f (fun w => es_ltirr (es_ltle w (h.resolve_left z))) ?_)
      dsimp only [wpY_take]
      exact ey_outT 2 rfl h (br_f (by decide) ⟨rfl, J⟩)
  · obtain ⟨hfm, nt, nw, nk, u, l, hz, hgr⟩ := hQ.2.2.2.2.1.2.2 g hg
    have hff := es_Frm_f hfm
    have hn6 := hgr.1.2.2.1
    have cg : (nI g).toNatClampNeg = g := nI_clamp (by omega)
    have vg2 : vp_in (nI g) 2 := vp_in_nI hg (by decide)
    have vg6 : vp_in (nI g) 6 := vp_in_nI (by omega) (by decide)
    refine br_f (nI_pos (by omega)) (br_t (nI_lt (b := 2) hg (by decide)) ⟨vg2, ?_⟩)
    rw [cg]
    refine br_c (fun z => ?_) (fun z => nm_r (es_g3 g) ⟨vp_in_nI (by omega) (by decide), ?_⟩)
    · dsimp only [wpY_take]
      exact ey_outF 2 g rfl (by decide) hg (br_t rfl ⟨vg2, br_t (by rw [cg]; exact hff.mp z) ⟨rfl, J⟩⟩)
    · have zf : ¬ y_formed (nI g).toNatClampNeg = 0 := by rw [cg]; exact fun w => z (hff.mpr w)
      rw [nI_clamp (by omega), hgr.2.2.1.1]
      by_cases h6 : nt < 6
      · refine br_t (nI_lt (b := 6) h6 (by decide)) (nm_r (es_g31 g) ?_)
        obtain ⟨u', v', hQ', hc1, hc2, hX, hY⟩ := em_pass hg 6 0 (by omega) (x_records, x_removedCount, x_flushed, x_drafted, x_height, x_time, x_foundAt, x_recordStream, x_recordType, x_recordVersion, x_recordValue, x_originProjection, x_originPosition, x_originInstruction, x_joined, x_removed, x_eventCount, x_cutLevel, x_draftType, x_draftValue, x_ops, x_arguments, x_programLength, x_states, x_noted, x_stack, x_metHeight, x_groupType, x_cursor, x_keptCursor, x_parked, x_rowCount, x_rowPosition, x_rowTimes, x_rowDue) (y_count, y_flushed, y_calls, y_drafted, y_top, y_time, y_isCut, y_removed, y_stream, y_type, y_from, y_by, y_value, y_version, y_on, y_call, y_draftType, y_draftValue, y_op, y_with, y_length, y_height, y_torn, y_stack, y_position, y_cells, y_noted, y_wanted, y_formed, y_cursor, y_parked, y_where, y_often, y_due, y_many, y_found) nw hQ hgr.2.2.1.2.2.1 (by omega)
        refine ⟨_, hX _ ?_⟩
        have hy : ∀ post : Int32 → SY → Prop, (match v' with | (y_count, y_flushed, y_calls, y_drafted, y_top, y_time, y_isCut, y_removed, y_stream, y_type, y_from, y_by, y_value, y_version, y_on, y_call, y_draftType, y_draftValue, y_op, y_with, y_length, y_height, y_torn, y_stack, y_position, y_cells, y_noted, y_wanted, y_formed, y_cursor, y_parked, y_where, y_often, y_due, y_many, y_found) => wY_take_79 post (nI g) (nI (16 + 8 * g)) y_count y_flushed y_calls y_drafted y_top y_time y_isCut y_removed y_stream y_type y_from y_by y_value y_version y_on y_call y_draftType y_draftValue y_op y_with y_length y_height y_torn y_stack y_position y_cells y_noted y_wanted y_formed y_cursor y_parked y_where y_often y_due y_many y_found) → wpY_take post (y_count, y_flushed, y_calls, y_drafted, y_top, y_time, y_isCut, y_removed, y_stream, y_type, y_from, y_by, y_value, y_version, y_on, y_call, y_draftType, y_draftValue, y_op, y_with, y_length, y_height, y_torn, y_stack, y_position, y_cells, y_noted, y_wanted, y_formed, y_cursor, y_parked, y_where, y_often, y_due, y_many, y_found) (nI g) := by
          intro post hp
          dsimp only [wpY_take]
          refine ey_outF 2 g rfl (by decide) hg (br_t rfl ⟨vg2, br_f zf ⟨vg6, br_f ?_ (nm_r (e' := nI (16 + 8 * g)) (by rw [es_8]; exact nI_add 16 _) ⟨_, hY post hp⟩)⟩⟩)
          rw [cg, hgr.2.2.1.2.1]
          exact fun w => by have := es_inj (b := 6) w (by omega) (by decide); omega
        have hc1' : es_cnt u' g = nI nt := hc1.trans hgr.2.2.1.1
        have hc2' : ¬ es_gty u' g = -1 := by rw [hc2]; exact z
        generalize wpY_take = WT at hy ⊢
        obtain ⟨x_records, x_removedCount, x_flushed, x_drafted, x_height, x_time, x_foundAt, x_recordStream, x_recordType, x_recordVersion, x_recordValue, x_originProjection, x_originPosition, x_originInstruction, x_joined, x_removed, x_eventCount, x_cutLevel, x_draftType, x_draftValue, x_ops, x_arguments, x_programLength, x_states, x_noted, x_stack, x_metHeight, x_groupType, x_cursor, x_keptCursor, x_parked, x_rowCount, x_rowPosition, x_rowTimes, x_rowDue⟩ := u'
        obtain ⟨t_1, t_2, t_3, t_4, t_5, t_6, t_7, t_8, t_9, t_10, t_11, t_12, t_13, t_14, t_15, t_16, t_17, t_18, t_19, t_20, t_21, t_22, t_23, t_24, t_25, t_26, t_27, t_28, t_29, t_30, t_31, t_32, t_33, t_34, t_35, t_36⟩ := v'
        exact em_take2 (P := fun _ u' v' => i_Rel (k + 4) u' v') hQ' hg hc1' h6 hc2' _ hy (fun r u' v' hq' => ⟨q, by omega, c, f, d, L, hq'⟩)
      · have e6 : nt = 6 := by omega
        refine br_f (by rw [e6]; decide) ?_
        dsimp only [wpY_take]
        refine ey_outF 2 g rfl (by decide) hg (br_t rfl ⟨vg2, br_f zf ⟨vg6, br_t ?_ ⟨rfl, J⟩⟩⟩)
        rw [cg, hgr.2.2.1.2.1, e6]; rfl
end
end
section
section
/-! copies of states; note, form -/
variable {x_records x_removedCount x_flushed x_drafted x_height x_time x_foundAt : Int32} {x_recordStream x_recordType x_recordVersion x_recordValue x_originProjection x_originPosition x_originInstruction x_joined x_removed x_eventCount x_cutLevel x_draftType x_draftValue x_ops x_arguments x_programLength x_states x_noted x_stack x_metHeight x_groupType x_cursor x_keptCursor x_parked x_rowCount x_rowPosition x_rowTimes x_rowDue : Nat → Int32} {y_count y_flushed y_calls y_drafted y_top y_time : Int32} {y_isCut y_removed y_stream y_type y_from y_by y_value y_version y_on y_call y_draftType y_draftValue y_op y_with y_length y_height y_torn y_stack y_position y_cells y_noted y_wanted y_formed y_cursor y_parked y_where y_often y_due y_many y_found : Nat → Int32} {c f q : Nat} {cut rm str ty fr byi val ver onn call oi jn ec cl : Nat → Int32} {d : Nat} {L : Nat → Nat} {g : Nat}
theorem ex_copyState {pst : SX → Prop} {p m1 m2 r1 r2 : Nat} (h1 : r1 = 3 * m1 + p) (h2 : r2 = 3 * m2 + p) (hp3 : p < 3) (hm1 : m1 < 3) (hm2 : m2 < 3) (hne : m1 ≠ m2)
    (hp : pst (x_records, x_removedCount, x_flushed, x_drafted, x_height, x_time, x_foundAt, x_recordStream, x_recordType, x_recordVersion, x_recordValue, x_originProjection, x_originPosition, x_originInstruction, x_joined, x_removed, x_eventCount, x_cutLevel, x_draftType, x_draftValue, x_ops, x_arguments, x_programLength, es_cpy x_states (11 * r2) (11 * r1) 11, x_noted, x_stack, x_metHeight, x_groupType, x_cursor, x_keptCursor, x_parked, x_rowCount, x_rowPosition, x_rowTimes, x_rowDue)) : wpX_copyState pst (x_records, x_removedCount, x_flushed, x_drafted, x_height, x_time, x_foundAt, x_recordStream, x_recordType, x_recordVersion, x_recordValue, x_originProjection, x_originPosition, x_originInstruction, x_joined, x_removed, x_eventCount, x_cutLevel, x_draftType, x_draftValue, x_ops, x_arguments, x_programLength, x_states, x_noted, x_stack, x_metHeight, x_groupType, x_cursor, x_keptCursor, x_parked, x_rowCount, x_rowPosition, x_rowTimes, x_rowDue) (nI p) (nI m1) (nI m2) := by
  subst h1 h2
  dsimp only [wpX_copyState]
  refine ex_stateBase (ex_stateBase ?_)
  refine loop_0 (fun n i s => wX_copyState_19 pst (nI (11 * (3 * m1 + p))) (nI (11 * (3 * m2 + p))) x_records x_removedCount x_flushed x_drafted x_height x_time x_foundAt n (nI i) x_recordStream x_recordType x_recordVersion x_recordValue x_originProjection x_originPosition x_originInstruction x_joined x_removed x_eventCount x_cutLevel x_draftType x_draftValue x_ops x_arguments x_programLength s x_noted x_stack x_metHeight x_groupType x_cursor x_keptCursor x_parked x_rowCount x_rowPosition x_rowTimes x_rowDue) (fun i s => s = es_cpy x_states (11 * (3 * m2 + p)) (11 * (3 * m1 + p)) i) 11 _ es_cpy_0.symm ?_ ?_
  · intro n s hs
    subst hs
    exact br_t (by decide) hp
  · intro n i s hi hs ih
    subst hs
    refine br_f (nI_ge (b := 11) hi (by decide)) ?_
    rw [nI_add, nI_add, nI_clamp (by omega), nI_clamp (by omega)]
    exact ⟨vp_in_nI (by omega) (by decide), vp_in_nI (by omega) (by decide), nm_r (es_cpy_s (by omega)) (nm_r (nI_1 _) (ih _ rfl))⟩
theorem es_10 (a : Nat) : 10 * nI a = nI (10 * a) := by
  rw [show (10 : Int32) = nI 10 from rfl, pk_mul]
theorem ey_copyState {pst : SY → Prop} {a b : Nat} (ha : a < 9) (hb : b < 9) (hne : a ≠ b)
    (hp : pst (y_count, y_flushed, y_calls, y_drafted, y_top, y_time, y_isCut, y_removed, y_stream, y_type, y_from, y_by, y_value, y_version, y_on, y_call, y_draftType, y_draftValue, y_op, y_with, y_length, y_height, y_torn, y_stack, upd y_position b (y_position a), es_cpy y_cells (10 * b) (10 * a) 10, y_noted, y_wanted, y_formed, y_cursor, y_parked, y_where, y_often, y_due, y_many, y_found)) : wpY_copyState pst (y_count, y_flushed, y_calls, y_drafted, y_top, y_time, y_isCut, y_removed, y_stream, y_type, y_from, y_by, y_value, y_version, y_on, y_call, y_draftType, y_draftValue, y_op, y_with, y_length, y_height, y_torn, y_stack, y_position, y_cells, y_noted, y_wanted, y_formed, y_cursor, y_parked, y_where, y_often, y_due, y_many, y_found) (nI a) (nI b) := by
  refine ⟨vp_in_nI ha (by decide), vp_in_nI hb (by decide), nm_r (e' := upd y_position b (y_position a)) (by rw [nI_clamp (by omega), nI_clamp (by omega)]) ?_⟩
  refine loop_0 (fun n i s => wY_copyState_14 pst (nI a) (nI b) y_count y_flushed y_calls y_drafted y_top y_time n (nI i) y_isCut y_removed y_stream y_type y_from y_by y_value y_version y_on y_call y_draftType y_draftValue y_op y_with y_length y_height y_torn y_stack (upd y_position b (y_position a)) s y_noted y_wanted y_formed y_cursor y_parked y_where y_often y_due y_many y_found) (fun i s => s = es_cpy y_cells (10 * b) (10 * a) i) 10 _ es_cpy_0.symm ?_ ?_
  · intro n s hs
    subst hs
    exact br_t (by decide) hp
  · intro n i s hi hs ih
    subst hs
    refine br_f (nI_ge (b := 10) hi (by decide)) ?_
    rw [es_10, es_10, nI_add, nI_add, nI_clamp (by omega), nI_clamp (by omega)]
    exact ⟨vp_in_nI (by omega) (by decide), vp_in_nI (by omega) (by decide), nm_r (es_cpy_s (by omega)) (nm_r (nI_1 _) (ih _ rfl))⟩
theorem ey_copyCells {pst : SY → Prop} {a b : Nat} (ha : a + 10 ≤ 100) (hb : b + 10 ≤ 100) (hne : a + 10 ≤ b ∨ b + 10 ≤ a)
    (hp : pst (y_count, y_flushed, y_calls, y_drafted, y_top, y_time, y_isCut, y_removed, y_stream, y_type, y_from, y_by, y_value, y_version, y_on, y_call, y_draftType, y_draftValue, y_op, y_with, y_length, y_height, y_torn, y_stack, y_position, es_cpy y_cells b a 10, y_noted, y_wanted, y_formed, y_cursor, y_parked, y_where, y_often, y_due, y_many, y_found)) : wpY_copyCells pst (y_count, y_flushed, y_calls, y_drafted, y_top, y_time, y_isCut, y_removed, y_stream, y_type, y_from, y_by, y_value, y_version, y_on, y_call, y_draftType, y_draftValue, y_op, y_with, y_length, y_height, y_torn, y_stack, y_position, y_cells, y_noted, y_wanted, y_formed, y_cursor, y_parked, y_where, y_often, y_due, y_many, y_found) (nI a) (nI b) := by
  refine loop_0 (fun n i s => wY_copyCells_2 pst (nI a) (nI b) y_count y_flushed y_calls y_drafted y_top y_time n (nI i) y_isCut y_removed y_stream y_type y_from y_by y_value y_version y_on y_call y_draftType y_draftValue y_op y_with y_length y_height y_torn y_stack y_position s y_noted y_wanted y_formed y_cursor y_parked y_where y_often y_due y_many y_found) (fun i s => s = es_cpy y_cells b a i) 10 _ es_cpy_0.symm ?_ ?_
  · intro n s hs
    subst hs
    exact br_t (by decide) hp
  · intro n i s hi hs ih
    subst hs
    refine br_f (nI_ge (b := 10) hi (by decide)) ?_
    rw [nI_add, nI_add, nI_clamp (by omega), nI_clamp (by omega)]
    exact ⟨vp_in_nI (by omega) (by decide), vp_in_nI (by omega) (by decide), nm_r (es_cpy_s (by omega)) (nm_r (nI_1 _) (ih _ rfl))⟩
theorem i_vc_note {k : Nat} {u : SX} {v : SY} (I : i_Rel k u v) (hk : k + 4 ≤ 2048) (v1 : Int32) : wpX_note (fun r u' => wpY_note (fun r' v' => r' = r ∧ i_Rel (k + 4) u' v') v v1) u v1 := by
  obtain ⟨x_records, x_removedCount, x_flushed, x_drafted, x_height, x_time, x_foundAt, x_recordStream, x_recordType, x_recordVersion, x_recordValue, x_originProjection, x_originPosition, x_originInstruction, x_joined, x_removed, x_eventCount, x_cutLevel, x_draftType, x_draftValue, x_ops, x_arguments, x_programLength, x_states, x_noted, x_stack, x_metHeight, x_groupType, x_cursor, x_keptCursor, x_parked, x_rowCount, x_rowPosition, x_rowTimes, x_rowDue⟩ := u
  obtain ⟨y_count, y_flushed, y_calls, y_drafted, y_top, y_time, y_isCut, y_removed, y_stream, y_type, y_from, y_by, y_value, y_version, y_on, y_call, y_draftType, y_draftValue, y_op, y_with, y_length, y_height, y_torn, y_stack, y_position, y_cells, y_noted, y_wanted, y_formed, y_cursor, y_parked, y_where, y_often, y_due, y_many, y_found⟩ := v
  have J := i_up I
  obtain ⟨q, hq, c, f, d, L, hL, hD, hP, hS, hG, hF⟩ := I
  have hP0 := hP
  obtain ⟨rfl, hlen, hop, ho3, hok⟩ := hP
  obtain ⟨r, hX, hY, hr⟩ := em_stand v1
  dsimp only [wpX_note]
  refine hX _ ?_
  dsimp only [wpY_note]
  rcases hr with ⟨rfl, p, hp, rfl, hz⟩ | hr
  · rw [(hlen p).1] at hz
    obtain ⟨hE, hE2, hE3, hE4⟩ := hS p hp (es_pos hz)
    obtain ⟨⟨a, ha, e1, e2⟩, hkk⟩ := hE
    refine br_t rfl (ex_copyState (m1 := 0) (m2 := 2) (r1 := p) (r2 := 6 + p) (by omega) (by omega) hp (by omega) (by omega) (by omega) ⟨vp_in_nI hp (by decide), nm_e (ex_stateBase (m := 0) ?_)⟩)
    have ex : nI (11 * (3 * 0 + p)) + 10 = nI (11 * p + 10) := by rw [show 11 * (3 * 0 + p) = 11 * p by omega]; exact nI_add _ 10
    dsimp only
    rw [ex, nI_clamp (by omega), nI_clamp (by omega), es_cpy_o (by omega), e1]
    refine ⟨vp_in_nI (by omega) (by decide), hY _ (br_t rfl ?_)⟩
    have e6 : 6 + nI p = nI (6 + p) := nI_add 6 p
    rw [e6]
    refine ey_copyState (by omega) (by omega) (by omega) ⟨vp_in_nI hp (by decide), nm_e ⟨vp_in_nI (by omega) (by decide), ?_⟩⟩
    dsimp only
    refine ⟨?_, ?_⟩
    · rw [pk_un (by omega), e2]
    · rw [es_nb1]
      refine ⟨q, by omega, c, f, d, L, hL, hD, hP0, fun m hm hl => ?_, hG, hF⟩
      obtain ⟨m1, m2, m3, m4⟩ := hS m hm hl
      refine ⟨es_Eq_o m1 (by omega), es_Eq_o m2 (by omega), ?_, ?_⟩
      · by_cases e : m = p
        · rw [e, pk_us, pk_us]
        · rw [pk_un e, pk_un e]; exact m3
      · by_cases e : m = p
        · intro _
          rw [e]
          rw [e] at m1
          exact es_Eq_t m1
        · rw [pk_un e]
          exact fun z => es_Eq_o (m4 z) (by omega)
  · exact br_f hr (hY _ (br_f hr ⟨rfl, J⟩))
end
end
section
section
/-! form -/
variable {x_records x_removedCount x_flushed x_drafted x_height x_time x_foundAt : Int32} {x_recordStream x_recordType x_recordVersion x_recordValue x_originProjection x_originPosition x_originInstruction x_joined x_removed x_eventCount x_cutLevel x_draftType x_draftValue x_ops x_arguments x_programLength x_states x_noted x_stack x_metHeight x_groupType x_cursor x_keptCursor x_parked x_rowCount x_rowPosition x_rowTimes x_rowDue : Nat → Int32} {y_count y_flushed y_calls y_drafted y_top y_time : Int32} {y_isCut y_removed y_stream y_type y_from y_by y_value y_version y_on y_call y_draftType y_draftValue y_op y_with y_length y_height y_torn y_stack y_position y_cells y_noted y_wanted y_formed y_cursor y_parked y_where y_often y_due y_many y_found : Nat → Int32} {c f q : Nat} {cut rm str ty fr byi val ver onn call oi jn ec cl : Nat → Int32} {d : Nat} {L : Nat → Nat} {g : Nat}
theorem ey_keep0 {pst : SY → Prop} (hg : g < 2) (h1 : y_many g = 0) (h2 : y_many (2 + g) = 0) (hp : pst (y_count, y_flushed, y_calls, y_drafted, y_top, y_time, y_isCut, y_removed, y_stream, y_type, y_from, y_by, y_value, y_version, y_on, y_call, y_draftType, y_draftValue, y_op, y_with, y_length, y_height, y_torn, y_stack, y_position, y_cells, y_noted, y_wanted, y_formed, upd y_cursor (2 + g) (y_cursor g), y_parked, y_where, y_often, y_due, upd y_many (4 + g) 0, y_found)) : wpY_keep pst (y_count, y_flushed, y_calls, y_drafted, y_top, y_time, y_isCut, y_removed, y_stream, y_type, y_from, y_by, y_value, y_version, y_on, y_call, y_draftType, y_draftValue, y_op, y_with, y_length, y_height, y_torn, y_stack, y_position, y_cells, y_noted, y_wanted, y_formed, y_cursor, y_parked, y_where, y_often, y_due, y_many, y_found) (nI g) := by
  have cg : (nI g).toNatClampNeg = g := nI_clamp (by omega)
  have c2 : (2 + nI g).toNatClampNeg = 2 + g := by rw [es_2g, nI_clamp (by omega)]
  have c4 : (4 + nI g).toNatClampNeg = 4 + g := by rw [es_4g, nI_clamp (by omega)]
  have v2 : vp_in (2 + nI g) 4 := by rw [es_2g]; exact vp_in_nI (by omega) (by decide)
  have v26 : vp_in (2 + nI g) 6 := by rw [es_2g]; exact vp_in_nI (by omega) (by decide)
  have v4 : vp_in (4 + nI g) 6 := by rw [es_4g]; exact vp_in_nI (by omega) (by decide)
  refine ⟨vp_in_nI (by omega) (by decide), v2, nm_r (e' := upd y_cursor (2 + g) (y_cursor g)) (by rw [cg, c2]) ⟨v4, nm_r (e' := upd y_many (4 + g) 0) (by rw [c4, es_nb_0]) ⟨1, vp_in_nI (by omega) (by decide), br_t ?_ ⟨1, v26, br_t ?_ hp⟩⟩⟩⟩
  · rw [cg, pk_un (by omega), h1]; exact Int32.le_refl 0
  · rw [c2, pk_un (by omega), h2]; exact Int32.le_refl 0
theorem es_RG_form {t : Nat} (H : es_RG c f x_groupType x_cursor x_keptCursor x_parked x_rowCount x_rowPosition x_rowTimes x_rowDue x_time y_formed y_wanted y_cursor y_parked y_many y_where y_often y_due y_time) (hg : g < 2) (ht : t ≤ 8) (hfc : f ≤ c) :
    es_RG c f (upd x_groupType g (nI t)) (upd x_cursor g (nI f)) (upd x_keptCursor g (nI f)) (upd x_parked g 0) (upd (upd (upd x_rowCount (3 * g) 0) (3 * g + 1) 0) (3 * g + 2) 0) x_rowPosition x_rowTimes x_rowDue x_time (upd y_formed g 1) (upd y_wanted g (nI t)) (upd (upd y_cursor g (nI f)) (2 + g) (nI f)) (upd y_parked g 0) (upd (upd (upd y_many g 0) (2 + g) 0) (4 + g) 0) y_where y_often y_due y_time := by
  obtain ⟨h1, h2, h3⟩ := H
  subst h1
  refine ⟨rfl, h2, fun e he => ?_⟩
  by_cases eg : e = g
  · subst eg
    refine ⟨Or.inr ⟨?_, t, ht, pk_us, pk_us⟩, 0, 0, 0, f, f, fun _ => rfl, ⟨hfc, Nat.le_refl f, by omega, by omega⟩, ⟨pk_us, ?_, pk_us, pk_us⟩, ⟨?_, ?_, ?_, ?_, pk_us, pk_us⟩, fun i h => absurd h (Nat.not_lt_zero _), fun i h => absurd h (Nat.not_lt_zero _), fun i h => absurd h (Nat.not_lt_zero _), fun i h => absurd h (Nat.not_lt_zero _), fun i j h => absurd h (Nat.not_lt_zero _), fun i j h => absurd h (Nat.not_lt_zero _), fun i j h => absurd h (Nat.not_lt_zero _), fun i j h h' => absurd h' (Nat.not_lt_zero _)⟩
    · rw [pk_us]; decide
    · rw [pk_un (by omega), pk_us]
    · rw [pk_un (by omega), pk_un (by omega), pk_us]; rfl
    · rw [pk_un (by omega), pk_un (by omega), pk_us]; rfl
    · rw [pk_un (by omega), pk_us]; rfl
    · rw [pk_un (by omega), pk_us]; rfl
  · obtain ⟨a, mt, mw, mk, w, l, b, h⟩ := h3 e he
    refine ⟨?_, mt, mw, mk, w, l, ?_, es_Grp_c h ⟨pk_un eg, ?_, pk_un eg, ?_⟩ (fun i hi => ?_) ⟨?_, ?_, ?_⟩ (fun i hi => ⟨rfl, rfl, rfl⟩) (fun m i hm hi => ⟨rfl, rfl, rfl⟩)⟩
    · unfold es_Frm at a ⊢
      rw [pk_un eg, pk_un eg, pk_un eg]; exact a
    · rw [pk_un eg]; exact b
    · rw [pk_un (by omega), pk_un eg]
    · rw [pk_un (by omega), pk_un (by omega)]
    · rw [pk_un (by omega), pk_un (by omega), pk_un (by omega)]
    · rw [pk_un (by omega), pk_un (by omega), pk_un (by omega)]
    · rw [pk_un (by omega), pk_un (by omega), pk_un (by omega)]
    · rw [pk_un (by omega), pk_un (by omega), pk_un (by omega)]
theorem es_01 : (0 : Int32) + 1 = 1 := by decide
theorem es_12 : (1 : Int32) + 1 = 2 := by decide
theorem es_23 : (2 : Int32) + 1 = 3 := by decide
theorem i_vc_form {k : Nat} {u : SX} {v : SY} (I : i_Rel k u v) (hk : k + 4 ≤ 2048) (v1 : Int32) (v2 : Int32) : wpX_form (fun r u' => wpY_form (fun r' v' => r' = r ∧ i_Rel (k + 4) u' v') v v1 v2) u v1 v2 := by
  obtain ⟨x_records, x_removedCount, x_flushed, x_drafted, x_height, x_time, x_foundAt, x_recordStream, x_recordType, x_recordVersion, x_recordValue, x_originProjection, x_originPosition, x_originInstruction, x_joined, x_removed, x_eventCount, x_cutLevel, x_draftType, x_draftValue, x_ops, x_arguments, x_programLength, x_states, x_noted, x_stack, x_metHeight, x_groupType, x_cursor, x_keptCursor, x_parked, x_rowCount, x_rowPosition, x_rowTimes, x_rowDue⟩ := u
  obtain ⟨y_count, y_flushed, y_calls, y_drafted, y_top, y_time, y_isCut, y_removed, y_stream, y_type, y_from, y_by, y_value, y_version, y_on, y_call, y_draftType, y_draftValue, y_op, y_with, y_length, y_height, y_torn, y_stack, y_position, y_cells, y_noted, y_wanted, y_formed, y_cursor, y_parked, y_where, y_often, y_due, y_many, y_found⟩ := v
  have J := i_up I
  obtain ⟨q, hq, c, f, d, L, hL, hD, hP, hS, hG, hF⟩ := I
  have hL0 := hL
  have hx := hL.2.2.1
  have hy := hL.2.2.2.1
  subst hx hy
  have hfc : f ≤ c := hL.2.2.2.2.2.2.2.2.2.2.2.2.2.1.2.1
  rcases es_rg v1 2 (by decide) with h | ⟨g, hg, rfl⟩
  · by_cases z : v1 < 0
    · refine br_t z ?_
      unfold wpY_form
      exact ey_outT 2 rfl h (br_f (by decide) ⟨rfl, J⟩)
    · refine br_f z (br_t (h.resolve_left z) ?_)
      unfold wpY_form
      exact ey_outT 2 rfl h (br_f (by decide) ⟨rfl, J⟩)
  · rcases es_rg v2 9 (by decide) with h | ⟨t, ht, rfl⟩
    · by_cases z : v2 < 0
      · refine br_f (nI_pos (by omega)) (br_f (nI_ge (b := 2) hg (by decide)) (br_t z ?_))
        unfold wpY_form
        exact ey_outF 2 g rfl (by decide) hg (br_t rfl (ey_outT 9 rfl h (br_f (by decide) ⟨rfl, J⟩)))
      · refine br_f (nI_pos (by omega)) (br_f (nI_ge (b := 2) hg (by decide)) (br_f z (br_f (fun w => es_ltirr (es_ltle (es_lelt w (by decide)) (h.resolve_left z))) ?_)))
        unfold wpY_form
        exact ey_outF 2 g rfl (by decide) hg (br_t rfl (ey_outT 9 rfl h (br_f (by decide) ⟨rfl, J⟩)))
    · have cg : (nI g).toNatClampNeg = g := nI_clamp (by omega)
      have vg2 : vp_in (nI g) 2 := vp_in_nI hg (by decide)
      have vg6 : vp_in (nI g) 6 := vp_in_nI (by omega) (by decide)
      have vg4 : vp_in (nI g) 4 := vp_in_nI (by omega) (by decide)
      have hn := es_nar t (by omega)
      have v3 : vp_in (nI g * 3 + 0) 6 := by rw [es_g3]; exact vp_in_nI (by omega) (by decide)
      have v31 : vp_in (nI g * 3 + 1) 6 := by rw [es_g31]; exact vp_in_nI (by omega) (by decide)
      have v32 : vp_in (nI g * 3 + 2) 6 := by rw [es_g32]; exact vp_in_nI (by omega) (by decide)
      have c3 : (nI g * 3 + 0).toNatClampNeg = 3 * g := by rw [es_g3, nI_clamp (by omega)]
      have c31 : (nI g * 3 + 1).toNatClampNeg = 3 * g + 1 := by rw [es_g31, nI_clamp (by omega)]
      have c32 : (nI g * 3 + 2).toNatClampNeg = 3 * g + 2 := by rw [es_g32, nI_clamp (by omega)]
      have c2 : (2 + nI g).toNatClampNeg = 2 + g := by rw [es_2g, nI_clamp (by omega)]
      have v2 : vp_in (2 + nI g) 6 := by rw [es_2g]; exact vp_in_nI (by omega) (by decide)
      refine br_f (nI_pos (by omega)) (br_f (nI_ge (b := 2) hg (by decide)) (br_f (nI_pos (by omega)) (br_t (nI_le (b := 8) (by omega) (by decide)) ?_)))
      rw [cg]
      refine ⟨vg2, nm_e ⟨vg2, nm_e ⟨vg2, nm_e ⟨vg2, nm_e ⟨4, ?_⟩⟩⟩⟩⟩
      refine br_f (by decide) ⟨v3, nm_r (e' := upd x_rowCount (3 * g) 0) (by rw [c3]) (nm_r es_01 ?_)⟩
      refine br_f (by decide) ⟨v31, nm_r (e' := upd (upd x_rowCount (3 * g) 0) (3 * g + 1) 0) (by rw [c31]) (nm_r es_12 ?_)⟩
      refine br_f (by decide) ⟨v32, nm_r (e' := upd (upd (upd x_rowCount (3 * g) 0) (3 * g + 1) 0) (3 * g + 2) 0) (by rw [c32]) (nm_r es_23 ?_)⟩
      refine br_t (by decide) ?_
      unfold wpY_form
      refine ey_outF 2 g rfl (by decide) hg (br_t rfl (ey_outF 9 t rfl (by decide) ht (br_t rfl ?_)))
      rw [cg, c2, hn.2, hn.1, es_nb1, es_nb_0]
      refine ⟨vg2, nm_e ⟨vg2, nm_e ⟨vg4, nm_e ⟨vg6, nm_e ⟨v2, nm_e ⟨vg2, nm_e ?_⟩⟩⟩⟩⟩⟩
      refine ey_keep0 hg ?_ ?_ ?_
      · rw [pk_un (by omega), pk_us]
      · rw [pk_us]
      · rw [pk_us]
        exact ⟨rfl, q, by omega, c, f, d, L, hL0, hD, hP, hS, es_RG_form hG hg (by omega) hfc, hF⟩
end
end
section
section
/-! what a flush keeps of a group -/
variable {x_records x_removedCount x_flushed x_drafted x_height x_time x_foundAt : Int32} {x_recordStream x_recordType x_recordVersion x_recordValue x_originProjection x_originPosition x_originInstruction x_joined x_removed x_eventCount x_cutLevel x_draftType x_draftValue x_ops x_arguments x_programLength x_states x_noted x_stack x_metHeight x_groupType x_cursor x_keptCursor x_parked x_rowCount x_rowPosition x_rowTimes x_rowDue : Nat → Int32} {y_count y_flushed y_calls y_drafted y_top y_time : Int32} {y_isCut y_removed y_stream y_type y_from y_by y_value y_version y_on y_call y_draftType y_draftValue y_op y_with y_length y_height y_torn y_stack y_position y_cells y_noted y_wanted y_formed y_cursor y_parked y_where y_often y_due y_many y_found : Nat → Int32} {c f q : Nat} {cut rm str ty fr byi val ver onn call oi jn ec cl : Nat → Int32} {d : Nat} {L : Nat → Nat} {g nt nw nk u k : Nat}
theorem es_Grp_ik {cu kc rn rp rt rd cv mn wh oft du : Nat → Int32} {a j : Nat} {tm : Int32} (H : es_Grp c f g nt nw nk u k cu kc rn rp rt rd cv mn wh oft du) (hg : g < 2) (hn : nk < 6) (ha : a < k) (hj : j ≤ nk)
    (h1 : ∀ i, i < j → rp (18 * g + 12 + i) < nI a) (h2 : ∀ i, j ≤ i → i < nk → nI a < rp (18 * g + 12 + i)) :
    es_Grp c f g nt nw (nk + 1) u k cu kc (upd rn (3 * g + 2) (nI (nk + 1))) (upd (es_ins rp (18 * g + 12 + j) (18 * g + 12 + nk)) (18 * g + 12 + j) (nI a)) (upd (es_ins rt (18 * g + 12 + j) (18 * g + 12 + nk)) (18 * g + 12 + j) tm) rd
      cv (upd mn (4 + g) (nI (nk + 1))) (upd (es_ins wh (32 + 8 * g + j) (32 + 8 * g + nk)) (32 + 8 * g + j) (nI a)) (upd (es_ins oft (32 + 8 * g + j) (32 + 8 * g + nk)) (32 + 8 * g + j) tm) du := by
  obtain ⟨a0, a1, a2, a3, a4, a5, a6, a7, a8, a9, a10⟩ := H
  have p0 : ∀ i, i < nt → upd (es_ins rp (18 * g + 12 + j) (18 * g + 12 + nk)) (18 * g + 12 + j) (nI a) (18 * g + i) = rp (18 * g + i) := fun i hi => es_ins_f hj (by omega)
  have p1 : ∀ i, i < nw → upd (es_ins rp (18 * g + 12 + j) (18 * g + 12 + nk)) (18 * g + 12 + j) (nI a) (18 * g + 6 + i) = rp (18 * g + 6 + i) := fun i hi => es_ins_f hj (by omega)
  refine ⟨⟨a0.1, a0.2.1, a0.2.2.1, by omega⟩, a1, ?_, es_Row_c a3 (fun i hi => ⟨p0 i hi, es_ins_f hj (by omega), es_ins_f hj (by omega), es_ins_f hj (by omega)⟩), a4, es_Row_c a5 (fun i hi => ⟨p1 i hi, es_ins_f hj (by omega), es_ins_f hj (by omega), es_ins_f hj (by omega)⟩), es_Row_i a6 hj ha, es_Dis_c a7 p0, es_Dis_c a8 p1, es_Di2_c a9 p0 p1, es_Srt_i a10 hj h1 h2⟩
  rw [pk_us, pk_us, pk_un (by omega), pk_un (by omega), pk_un (by omega), pk_un (by omega)]
  exact ⟨a2.1, a2.2.1, a2.2.2.1, a2.2.2.2.1, rfl, rfl⟩
/-- the kept row of group g as far as it has grown: na of T, nb of W -/
def es_KI (c d : Nat) (L : Nat → Nat) (q g nt nw u : Nat) (T W : Nat → Int32) (na nb : Nat) (s : SX) (v : SY) : Prop :=
  es_Q c c d L q s v ∧ match s with | (x_records, x_removedCount, x_flushed, x_drafted, x_height, x_time, x_foundAt, x_recordStream, x_recordType, x_recordVersion, x_recordValue, x_originProjection, x_originPosition, x_originInstruction, x_joined, x_removed, x_eventCount, x_cutLevel, x_draftType, x_draftValue, x_ops, x_arguments, x_programLength, x_states, x_noted, x_stack, x_metHeight, x_groupType, x_cursor, x_keptCursor, x_parked, x_rowCount, x_rowPosition, x_rowTimes, x_rowDue) => match v with | (y_count, y_flushed, y_calls, y_drafted, y_top, y_time, y_isCut, y_removed, y_stream, y_type, y_from, y_by, y_value, y_version, y_on, y_call, y_draftType, y_draftValue, y_op, y_with, y_length, y_height, y_torn, y_stack, y_position, y_cells, y_noted, y_wanted, y_formed, y_cursor, y_parked, y_where, y_often, y_due, y_many, y_found) => (y_formed g = 0 → nt = 0) ∧ es_Grp c c g nt nw (na + nb) u u x_cursor x_keptCursor x_rowCount x_rowPosition x_rowTimes x_rowDue y_cursor y_many y_where y_often y_due ∧
    (∀ i, i < nt → x_rowPosition (18 * g + i) = T i) ∧ (∀ i, i < nw → x_rowPosition (18 * g + 6 + i) = W i) ∧
    (∀ j, j < na + nb → (∃ i, i < na ∧ x_rowPosition (18 * g + 12 + j) = T i) ∨ (∃ i, i < nb ∧ x_rowPosition (18 * g + 12 + j) = W i))
/-- one entry more -/
theorem em_kins {T W : Nat → Int32} {na nb na' nb' r i a : Nat} {x tm : Int32} (H : es_KI c d L q g nt nw u T W na nb (x_records, x_removedCount, x_flushed, x_drafted, x_height, x_time, x_foundAt, x_recordStream, x_recordType, x_recordVersion, x_recordValue, x_originProjection, x_originPosition, x_originInstruction, x_joined, x_removed, x_eventCount, x_cutLevel, x_draftType, x_draftValue, x_ops, x_arguments, x_programLength, x_states, x_noted, x_stack, x_metHeight, x_groupType, x_cursor, x_keptCursor, x_parked, x_rowCount, x_rowPosition, x_rowTimes, x_rowDue) (y_count, y_flushed, y_calls, y_drafted, y_top, y_time, y_isCut, y_removed, y_stream, y_type, y_from, y_by, y_value, y_version, y_on, y_call, y_draftType, y_draftValue, y_op, y_with, y_length, y_height, y_torn, y_stack, y_position, y_cells, y_noted, y_wanted, y_formed, y_cursor, y_parked, y_where, y_often, y_due, y_many, y_found)) (hg : g < 2) (hn : na + nb < 6) (hna : na' + nb' = na + nb + 1) (hm1 : na ≤ na') (hm2 : nb ≤ nb')
    (hr : r < 6) (hi : i < 6) (ha : a < u) (hx : x = nI a) (dT : ∀ i, i < na → ¬ T i = x) (dW : ∀ i, i < nb → ¬ W i = x) (hnew : (∃ i, i < na' ∧ x = T i) ∨ (∃ i, i < nb' ∧ x = W i)) (htm : x_rowTimes (6 * r + i) = tm) :
    ∃ (u' : SX) (v' : SY), es_KI c d L q g nt nw u T W na' nb' u' v' ∧
      (∀ (post : SX → Prop) (K : Int32 → SX → Prop), K (nI (i + 1)) u' → ∃ n, wX_keepRow_44 post ((fun a z_records z_removedCount z_flushed z_drafted z_height z_time z_foundAt z_recordStream z_recordType z_recordVersion z_recordValue z_originProjection z_originPosition z_originInstruction z_joined z_removed z_eventCount z_cutLevel z_draftType z_draftValue z_ops z_arguments z_programLength z_states z_noted z_stack z_metHeight z_groupType z_cursor z_keptCursor z_parked z_rowCount z_rowPosition z_rowTimes z_rowDue => K a (z_records, z_removedCount, z_flushed, z_drafted, z_height, z_time, z_foundAt, z_recordStream, z_recordType, z_recordVersion, z_recordValue, z_originProjection, z_originPosition, z_originInstruction, z_joined, z_removed, z_eventCount, z_cutLevel, z_draftType, z_draftValue, z_ops, z_arguments, z_programLength, z_states, z_noted, z_stack, z_metHeight, z_groupType, z_cursor, z_keptCursor, z_parked, z_rowCount, z_rowPosition, z_rowTimes, z_rowDue))) (nI r) (nI (3 * g + 2)) (nI i) x x_records x_removedCount x_flushed x_drafted x_height x_time x_foundAt x_recordStream x_recordType x_recordVersion x_recordValue x_originProjection x_originPosition x_originInstruction x_joined x_removed x_eventCount x_cutLevel x_draftType x_draftValue x_ops x_arguments x_programLength x_states x_noted x_stack x_metHeight x_groupType x_cursor x_keptCursor x_parked x_rowCount x_rowPosition x_rowTimes x_rowDue n 0) ∧
      (∀ post : SY → Prop, post v' → wpY_insert post (y_count, y_flushed, y_calls, y_drafted, y_top, y_time, y_isCut, y_removed, y_stream, y_type, y_from, y_by, y_value, y_version, y_on, y_call, y_draftType, y_draftValue, y_op, y_with, y_length, y_height, y_torn, y_stack, y_position, y_cells, y_noted, y_wanted, y_formed, y_cursor, y_parked, y_where, y_often, y_due, y_many, y_found) (nI (4 + g)) x tm) := by
  subst hx
  obtain ⟨⟨hL, hD, hP, hS, hG, hF⟩, hz, hgr, hT, hW, hM⟩ := H
  have hk2 := hgr.2.2.1
  obtain ⟨j, hj, h1, h2⟩ := es_place hgr.2.2.2.2.2.2.2.2.2.2 (x := nI a) (fun j hj => by
    rcases hM j hj with ⟨i, hi, e⟩ | ⟨i, hi, e⟩
    · rw [e]; exact dT i hi
    · rw [e]; exact dW i hi)
  have hgr' := es_Grp_ik (tm := tm) hgr hg hn ha hj h1 h2
  have hpk := hG.1
  have hG' := es_RG_set (pk' := y_parked) hG hg hz hgr' (fun e he => ?_) (fun e he => pk_un (by omega)) (fun e _ _ h => pk_un h) (fun e _ _ h3 => ?_) (fun e _ => ⟨rfl, rfl⟩) (fun e _ _ => rfl)
  subst hpk
  refine ⟨(x_records, x_removedCount, x_flushed, x_drafted, x_height, x_time, x_foundAt, x_recordStream, x_recordType, x_recordVersion, x_recordValue, x_originProjection, x_originPosition, x_originInstruction, x_joined, x_removed, x_eventCount, x_cutLevel, x_draftType, x_draftValue, x_ops, x_arguments, x_programLength, x_states, x_noted, x_stack, x_metHeight, x_groupType, x_cursor, x_keptCursor, y_parked, upd x_rowCount (3 * g + 2) (nI (na + nb + 1)), upd (es_ins x_rowPosition (18 * g + 12 + j) (18 * g + 12 + (na + nb))) (18 * g + 12 + j) (nI a), upd (es_ins x_rowTimes (18 * g + 12 + j) (18 * g + 12 + (na + nb))) (18 * g + 12 + j) tm, x_rowDue), (y_count, y_flushed, y_calls, y_drafted, y_top, y_time, y_isCut, y_removed, y_stream, y_type, y_from, y_by, y_value, y_version, y_on, y_call, y_draftType, y_draftValue, y_op, y_with, y_length, y_height, y_torn, y_stack, y_position, y_cells, y_noted, y_wanted, y_formed, y_cursor, y_parked, upd (es_ins y_where (32 + 8 * g + j) (32 + 8 * g + (na + nb))) (32 + 8 * g + j) (nI a), upd (es_ins y_often (32 + 8 * g + j) (32 + 8 * g + (na + nb))) (32 + 8 * g + j) tm, y_due, upd y_many (4 + g) (nI (na + nb + 1)), y_found), ⟨⟨hL, hD, hP, hS, hG', hF⟩, hz, ?_, fun i hi => ?_, fun i hi => ?_, fun e he => ?_⟩, fun post K hK => ?_, fun post hp => ?_⟩
  · rw [hna]; exact hgr'
  · rw [es_ins_f hj (by have := hgr.1.2.2.1; omega)]; exact hT i hi
  · rw [es_ins_f hj (by have := hgr.1.2.2.1; omega)]; exact hW i hi
  · rw [hna] at he
    rcases es_ins_w (b := 18 * g + 12) x_rowPosition (nI a) hj e he with ⟨f1, f2⟩ | ⟨e', b1, b2, b3, b4, b5⟩
    · rw [f2]; exact hnew
    · rw [b5]
      rcases hM e' b1 with ⟨i, hi, y⟩ | ⟨i, hi, y⟩
      · exact Or.inl ⟨i, by omega, y⟩
      · exact Or.inr ⟨i, by omega, y⟩
  · have vx : vp_in (nI (3 * g + 2)) 6 := vp_in_nI (by omega) (by decide)
    have cx : (nI (3 * g + 2)).toNatClampNeg = 3 * g + 2 := nI_clamp (by omega)
    have vr : vp_in (nI r * 6 + nI i) 36 := by rw [es_6, nI_add]; exact vp_in_nI (by omega) (by decide)
    have cr : (nI r * 6 + nI i).toNatClampNeg = 6 * r + i := by rw [es_6, nI_add, nI_clamp (by omega)]
    have fin : wX_keepRow_80 post ((fun a z_records z_removedCount z_flushed z_drafted z_height z_time z_foundAt z_recordStream z_recordType z_recordVersion z_recordValue z_originProjection z_originPosition z_originInstruction z_joined z_removed z_eventCount z_cutLevel z_draftType z_draftValue z_ops z_arguments z_programLength z_states z_noted z_stack z_metHeight z_groupType z_cursor z_keptCursor z_parked z_rowCount z_rowPosition z_rowTimes z_rowDue => K a (z_records, z_removedCount, z_flushed, z_drafted, z_height, z_time, z_foundAt, z_recordStream, z_recordType, z_recordVersion, z_recordValue, z_originProjection, z_originPosition, z_originInstruction, z_joined, z_removed, z_eventCount, z_cutLevel, z_draftType, z_draftValue, z_ops, z_arguments, z_programLength, z_states, z_noted, z_stack, z_metHeight, z_groupType, z_cursor, z_keptCursor, z_parked, z_rowCount, z_rowPosition, z_rowTimes, z_rowDue))) (nI r) (nI (3 * g + 2)) (nI i) (nI a) (nI j) x_records x_removedCount x_flushed x_drafted x_height x_time x_foundAt x_recordStream x_recordType x_recordVersion x_recordValue x_originProjection x_originPosition x_originInstruction x_joined x_removed x_eventCount x_cutLevel x_draftType x_draftValue x_ops x_arguments x_programLength x_states x_noted x_stack x_metHeight x_groupType x_cursor x_keptCursor y_parked x_rowCount x_rowPosition x_rowTimes x_rowDue := by
      refine ⟨vr, ?_⟩
      rw [cr, htm]
      exact ex_insert (b := 18 * g + 12) (by omega) (by omega) hk2.2.2.2.2.1 hj hn (nm_r (nI_1 _) hK)
    refine pk_loop (fun n e (_ : Unit) => wX_keepRow_44 post ((fun a z_records z_removedCount z_flushed z_drafted z_height z_time z_foundAt z_recordStream z_recordType z_recordVersion z_recordValue z_originProjection z_originPosition z_originInstruction z_joined z_removed z_eventCount z_cutLevel z_draftType z_draftValue z_ops z_arguments z_programLength z_states z_noted z_stack z_metHeight z_groupType z_cursor z_keptCursor z_parked z_rowCount z_rowPosition z_rowTimes z_rowDue => K a (z_records, z_removedCount, z_flushed, z_drafted, z_height, z_time, z_foundAt, z_recordStream, z_recordType, z_recordVersion, z_recordValue, z_originProjection, z_originPosition, z_originInstruction, z_joined, z_removed, z_eventCount, z_cutLevel, z_draftType, z_draftValue, z_ops, z_arguments, z_programLength, z_states, z_noted, z_stack, z_metHeight, z_groupType, z_cursor, z_keptCursor, z_parked, z_rowCount, z_rowPosition, z_rowTimes, z_rowDue))) (nI r) (nI (3 * g + 2)) (nI i) (nI a) x_records x_removedCount x_flushed x_drafted x_height x_time x_foundAt x_recordStream x_recordType x_recordVersion x_recordValue x_originProjection x_originPosition x_originInstruction x_joined x_removed x_eventCount x_cutLevel x_draftType x_draftValue x_ops x_arguments x_programLength x_states x_noted x_stack x_metHeight x_groupType x_cursor x_keptCursor y_parked x_rowCount x_rowPosition x_rowTimes x_rowDue n (nI e)) (fun e _ => True) j 0 () (by omega) trivial ?_ ?_
    · intro n _ _
      refine ⟨vx, ?_⟩
      rw [cx, hk2.2.2.2.2.1]
      by_cases z : j = na + nb
      · exact br_t (nI_le (by omega) (by omega)) fin
      · refine br_f (nI_ge (by omega) (by omega)) ?_
        rw [es_6, nI_add, nI_clamp (by omega), show 6 * (3 * g + 2) + j = 18 * g + 12 + j by omega]
        refine ⟨vp_in_nI (by omega) (by decide), br_t ?_ fin⟩
        exact es_nlt (es_ltas (h2 j (Nat.le_refl j) (by omega)))
    · intro n e _ he _ ih
      refine ⟨vx, ?_⟩
      rw [cx, hk2.2.2.2.2.1]
      refine br_f (nI_ge (by omega) (by omega)) ?_
      rw [es_6, nI_add, nI_clamp (by omega), show 6 * (3 * g + 2) + e = 18 * g + 12 + e by omega]
      exact ⟨vp_in_nI (by omega) (by decide), br_f (fun z => es_ltirr (es_ltle (h1 e he) z)) (nm_r (nI_1 _) (ih () trivial))⟩
  · have hrow := hgr.2.2.2.2.2.2.1
    refine ey_insert (b := 32 + 8 * g) (by omega) (by omega) hk2.2.2.2.2.2 hj hn (fun h0 => ?_) (fun e he1 he2 => ?_) hp
    · have := (hrow (j - 1) (by omega)).2.1
      rw [show 32 + 8 * g + (j - 1) = 32 + 8 * g + j - 1 by omega] at this
      rw [this]
      exact es_nlt (es_ltas (h1 (j - 1) (by omega)))
    · rw [(hrow e he2).2.1]
      exact fun z => es_ltirr (es_ltle (h2 e he1 he2) z)
  · rw [es_ins_f hj (by omega), es_ins_f hj (by omega)]; exact ⟨rfl, rfl, rfl⟩
  · rw [es_ins_f hj (by omega), es_ins_f hj (by omega)]; exact ⟨rfl, rfl, rfl⟩
end
end
section
section
/-! flush -/
variable {x_records x_removedCount x_flushed x_drafted x_height x_time x_foundAt : Int32} {x_recordStream x_recordType x_recordVersion x_recordValue x_originProjection x_originPosition x_originInstruction x_joined x_removed x_eventCount x_cutLevel x_draftType x_draftValue x_ops x_arguments x_programLength x_states x_noted x_stack x_metHeight x_groupType x_cursor x_keptCursor x_parked x_rowCount x_rowPosition x_rowTimes x_rowDue : Nat → Int32} {y_count y_flushed y_calls y_drafted y_top y_time : Int32} {y_isCut y_removed y_stream y_type y_from y_by y_value y_version y_on y_call y_draftType y_draftValue y_op y_with y_length y_height y_torn y_stack y_position y_cells y_noted y_wanted y_formed y_cursor y_parked y_where y_often y_due y_many y_found : Nat → Int32} {c f q : Nat} {cut rm str ty fr byi val ver onn call oi jn ec cl : Nat → Int32} {d : Nat} {L : Nat → Nat} {g nt nw nk u k : Nat} {T W : Nat → Int32}
theorem em_kT (hg : g < 2) : ∀ r i, i + r = nt → ∀ (s : SX) (v : SY), es_KI c d L q g nt nw u T W i 0 s v → ∃ (s' : SX) (v' : SY), es_KI c d L q g nt nw u T W nt 0 s' v' ∧
    (∀ post : SX → Prop, post s' → match s with | (x_records, x_removedCount, x_flushed, x_drafted, x_height, x_time, x_foundAt, x_recordStream, x_recordType, x_recordVersion, x_recordValue, x_originProjection, x_originPosition, x_originInstruction, x_joined, x_removed, x_eventCount, x_cutLevel, x_draftType, x_draftValue, x_ops, x_arguments, x_programLength, x_states, x_noted, x_stack, x_metHeight, x_groupType, x_cursor, x_keptCursor, x_parked, x_rowCount, x_rowPosition, x_rowTimes, x_rowDue) => wX_keepRow_16 post (nI (3 * g)) (nI (3 * g + 2)) (r + 1) (nI i) x_records x_removedCount x_flushed x_drafted x_height x_time x_foundAt x_recordStream x_recordType x_recordVersion x_recordValue x_originProjection x_originPosition x_originInstruction x_joined x_removed x_eventCount x_cutLevel x_draftType x_draftValue x_ops x_arguments x_programLength x_states x_noted x_stack x_metHeight x_groupType x_cursor x_keptCursor x_parked x_rowCount x_rowPosition x_rowTimes x_rowDue) ∧
    (∀ post : SY → Prop, (match v' with | (y_count, y_flushed, y_calls, y_drafted, y_top, y_time, y_isCut, y_removed, y_stream, y_type, y_from, y_by, y_value, y_version, y_on, y_call, y_draftType, y_draftValue, y_op, y_with, y_length, y_height, y_torn, y_stack, y_position, y_cells, y_noted, y_wanted, y_formed, y_cursor, y_parked, y_where, y_often, y_due, y_many, y_found) => ∃ n, wY_keep_72 post (nI g) n 0 y_count y_flushed y_calls y_drafted y_top y_time y_isCut y_removed y_stream y_type y_from y_by y_value y_version y_on y_call y_draftType y_draftValue y_op y_with y_length y_height y_torn y_stack y_position y_cells y_noted y_wanted y_formed y_cursor y_parked y_where y_often y_due y_many y_found) → match v with | (y_count, y_flushed, y_calls, y_drafted, y_top, y_time, y_isCut, y_removed, y_stream, y_type, y_from, y_by, y_value, y_version, y_on, y_call, y_draftType, y_draftValue, y_op, y_with, y_length, y_height, y_torn, y_stack, y_position, y_cells, y_noted, y_wanted, y_formed, y_cursor, y_parked, y_where, y_often, y_due, y_many, y_found) => wY_keep_25 post (nI g) (r + 1) (nI i) y_count y_flushed y_calls y_drafted y_top y_time y_isCut y_removed y_stream y_type y_from y_by y_value y_version y_on y_call y_draftType y_draftValue y_op y_with y_length y_height y_torn y_stack y_position y_cells y_noted y_wanted y_formed y_cursor y_parked y_where y_often y_due y_many y_found) := by
  intro r
  induction r with
  | zero =>
    intro i hi s v H
    obtain ⟨x_records, x_removedCount, x_flushed, x_drafted, x_height, x_time, x_foundAt, x_recordStream, x_recordType, x_recordVersion, x_recordValue, x_originProjection, x_originPosition, x_originInstruction, x_joined, x_removed, x_eventCount, x_cutLevel, x_draftType, x_draftValue, x_ops, x_arguments, x_programLength, x_states, x_noted, x_stack, x_metHeight, x_groupType, x_cursor, x_keptCursor, x_parked, x_rowCount, x_rowPosition, x_rowTimes, x_rowDue⟩ := s
    obtain ⟨y_count, y_flushed, y_calls, y_drafted, y_top, y_time, y_isCut, y_removed, y_stream, y_type, y_from, y_by, y_value, y_version, y_on, y_call, y_draftType, y_draftValue, y_op, y_with, y_length, y_height, y_torn, y_stack, y_position, y_cells, y_noted, y_wanted, y_formed, y_cursor, y_parked, y_where, y_often, y_due, y_many, y_found⟩ := v
    have hgr := H.2.2.1
    have e : i = nt := by omega
    subst e
    refine ⟨_, _, H, fun post hp => ⟨vp_in_nI (by omega) (by decide), br_t ?_ hp⟩, fun post hp => ⟨vp_in_nI (by omega) (by decide), br_t ?_ hp⟩⟩
    · rw [nI_clamp (by omega), hgr.2.2.1.1]; exact Int32.le_refl _
    · rw [nI_clamp (by omega), hgr.2.2.1.2.1]; exact Int32.le_refl _
  | succ r ih =>
    intro i hi s v H
    obtain ⟨x_records, x_removedCount, x_flushed, x_drafted, x_height, x_time, x_foundAt, x_recordStream, x_recordType, x_recordVersion, x_recordValue, x_originProjection, x_originPosition, x_originInstruction, x_joined, x_removed, x_eventCount, x_cutLevel, x_draftType, x_draftValue, x_ops, x_arguments, x_programLength, x_states, x_noted, x_stack, x_metHeight, x_groupType, x_cursor, x_keptCursor, x_parked, x_rowCount, x_rowPosition, x_rowTimes, x_rowDue⟩ := s
    obtain ⟨y_count, y_flushed, y_calls, y_drafted, y_top, y_time, y_isCut, y_removed, y_stream, y_type, y_from, y_by, y_value, y_version, y_on, y_call, y_draftType, y_draftValue, y_op, y_with, y_length, y_height, y_torn, y_stack, y_position, y_cells, y_noted, y_wanted, y_formed, y_cursor, y_parked, y_where, y_often, y_due, y_many, y_found⟩ := v
    obtain ⟨hQ, hz, hgr, hT, hW, hM⟩ := H
    have hn6 := hgr.1.2.2.1
    have hit : i < nt := by omega
    obtain ⟨⟨a, ha, ea⟩, hwh, hof⟩ := hgr.2.2.2.1 i hit
    have e6 : 6 * (3 * g) + i = 18 * g + i := by omega
    obtain ⟨s', v', hK, hX, hY⟩ := em_kins (na' := i + 1) (nb' := 0) (r := 3 * g) (i := i) (x := x_rowPosition (18 * g + i)) (tm := x_rowTimes (18 * g + i)) ⟨hQ, hz, hgr, hT, hW, hM⟩ hg (by omega) (by omega) (by omega) (by omega) (by omega) (by omega) ha ea
      (fun j hj e => by
        rw [← hT j (by omega)] at e
        have := hgr.2.2.2.2.2.2.2.1 j i (by omega) hit e
        omega)
      (fun j hj => absurd hj (Nat.not_lt_zero _)) (Or.inl ⟨i, by omega, hT i hit⟩) (by rw [e6])
    obtain ⟨s2, v2, hK2, hX2, hY2⟩ := ih (i + 1) (by omega) s' v' hK
    refine ⟨s2, v2, hK2, fun post hp => ⟨vp_in_nI (by omega) (by decide), br_f ?_ ?_⟩, fun post hp => ⟨vp_in_nI (by omega) (by decide), br_f ?_ ?_⟩⟩
    · rw [nI_clamp (by omega), hgr.2.2.1.1]; exact nI_ge hit (by omega)
    · have c1 : (nI (3 * g) * 6 + nI i).toNatClampNeg = 18 * g + i := by rw [es_6, nI_add, nI_clamp (by omega), e6]
      have v1 : vp_in (nI (3 * g) * 6 + nI i) 36 := by rw [es_6, nI_add]; exact vp_in_nI (by omega) (by decide)
      rw [c1]
      exact ⟨v1, nm_e (hX post (fun x5 s => match s with | (x_records, x_removedCount, x_flushed, x_drafted, x_height, x_time, x_foundAt, x_recordStream, x_recordType, x_recordVersion, x_recordValue, x_originProjection, x_originPosition, x_originInstruction, x_joined, x_removed, x_eventCount, x_cutLevel, x_draftType, x_draftValue, x_ops, x_arguments, x_programLength, x_states, x_noted, x_stack, x_metHeight, x_groupType, x_cursor, x_keptCursor, x_parked, x_rowCount, x_rowPosition, x_rowTimes, x_rowDue) => wX_keepRow_16 post (nI (3 * g)) (nI (3 * g + 2)) (r + 1) x5 x_records x_removedCount x_flushed x_drafted x_height x_time x_foundAt x_recordStream x_recordType x_recordVersion x_recordValue x_originProjection x_originPosition x_originInstruction x_joined x_removed x_eventCount x_cutLevel x_draftType x_draftValue x_ops x_arguments x_programLength x_states x_noted x_stack x_metHeight x_groupType x_cursor x_keptCursor x_parked x_rowCount x_rowPosition x_rowTimes x_rowDue) (hX2 post hp))⟩
    · rw [nI_clamp (by omega), hgr.2.2.1.2.1]; exact nI_ge hit (by omega)
    · have c1 : (8 * nI g + nI i).toNatClampNeg = 8 * g + i := by rw [es_8, nI_add, nI_clamp (by omega)]
      have v1 : vp_in (8 * nI g + nI i) 64 := by rw [es_8, nI_add]; exact vp_in_nI (by omega) (by decide)
      refine ⟨v1, v1, ?_⟩
      rw [c1, hwh, hof, es_4g]
      have h2 := hY2 post hp
      refine hY _ ?_
      obtain ⟨y_count, y_flushed, y_calls, y_drafted, y_top, y_time, y_isCut, y_removed, y_stream, y_type, y_from, y_by, y_value, y_version, y_on, y_call, y_draftType, y_draftValue, y_op, y_with, y_length, y_height, y_torn, y_stack, y_position, y_cells, y_noted, y_wanted, y_formed, y_cursor, y_parked, y_where, y_often, y_due, y_many, y_found⟩ := v'
      exact nm_r (nI_1 _) h2
theorem em_kW (hg : g < 2) : ∀ r i, i + r = nw → ∀ (s : SX) (v : SY), es_KI c d L q g nt nw u T W nt i s v → ∃ (s' : SX) (v' : SY), es_KI c d L q g nt nw u T W nt nw s' v' ∧
    (∀ post : SX → Prop, post s' → match s with | (x_records, x_removedCount, x_flushed, x_drafted, x_height, x_time, x_foundAt, x_recordStream, x_recordType, x_recordVersion, x_recordValue, x_originProjection, x_originPosition, x_originInstruction, x_joined, x_removed, x_eventCount, x_cutLevel, x_draftType, x_draftValue, x_ops, x_arguments, x_programLength, x_states, x_noted, x_stack, x_metHeight, x_groupType, x_cursor, x_keptCursor, x_parked, x_rowCount, x_rowPosition, x_rowTimes, x_rowDue) => wX_keepRow_16 post (nI (3 * g + 1)) (nI (3 * g + 2)) (r + 1) (nI i) x_records x_removedCount x_flushed x_drafted x_height x_time x_foundAt x_recordStream x_recordType x_recordVersion x_recordValue x_originProjection x_originPosition x_originInstruction x_joined x_removed x_eventCount x_cutLevel x_draftType x_draftValue x_ops x_arguments x_programLength x_states x_noted x_stack x_metHeight x_groupType x_cursor x_keptCursor x_parked x_rowCount x_rowPosition x_rowTimes x_rowDue) ∧
    (∀ post : SY → Prop, post v' → match v with | (y_count, y_flushed, y_calls, y_drafted, y_top, y_time, y_isCut, y_removed, y_stream, y_type, y_from, y_by, y_value, y_version, y_on, y_call, y_draftType, y_draftValue, y_op, y_with, y_length, y_height, y_torn, y_stack, y_position, y_cells, y_noted, y_wanted, y_formed, y_cursor, y_parked, y_where, y_often, y_due, y_many, y_found) => wY_keep_72 post (nI g) (r + 1) (nI i) y_count y_flushed y_calls y_drafted y_top y_time y_isCut y_removed y_stream y_type y_from y_by y_value y_version y_on y_call y_draftType y_draftValue y_op y_with y_length y_height y_torn y_stack y_position y_cells y_noted y_wanted y_formed y_cursor y_parked y_where y_often y_due y_many y_found) := by
  intro r
  induction r with
  | zero =>
    intro i hi s v H
    obtain ⟨x_records, x_removedCount, x_flushed, x_drafted, x_height, x_time, x_foundAt, x_recordStream, x_recordType, x_recordVersion, x_recordValue, x_originProjection, x_originPosition, x_originInstruction, x_joined, x_removed, x_eventCount, x_cutLevel, x_draftType, x_draftValue, x_ops, x_arguments, x_programLength, x_states, x_noted, x_stack, x_metHeight, x_groupType, x_cursor, x_keptCursor, x_parked, x_rowCount, x_rowPosition, x_rowTimes, x_rowDue⟩ := s
    obtain ⟨y_count, y_flushed, y_calls, y_drafted, y_top, y_time, y_isCut, y_removed, y_stream, y_type, y_from, y_by, y_value, y_version, y_on, y_call, y_draftType, y_draftValue, y_op, y_with, y_length, y_height, y_torn, y_stack, y_position, y_cells, y_noted, y_wanted, y_formed, y_cursor, y_parked, y_where, y_often, y_due, y_many, y_found⟩ := v
    have hgr := H.2.2.1
    have e : i = nw := by omega
    subst e
    refine ⟨_, _, H, fun post hp => ⟨vp_in_nI (by omega) (by decide), br_t ?_ hp⟩, fun post hp => ⟨by rw [es_2g]; exact vp_in_nI (by omega) (by decide), br_t ?_ hp⟩⟩
    · rw [nI_clamp (by omega), hgr.2.2.1.2.2.1]; exact Int32.le_refl _
    · rw [es_2g, nI_clamp (by omega), hgr.2.2.1.2.2.2.1]; exact Int32.le_refl _
  | succ r ih =>
    intro i hi s v H
    obtain ⟨x_records, x_removedCount, x_flushed, x_drafted, x_height, x_time, x_foundAt, x_recordStream, x_recordType, x_recordVersion, x_recordValue, x_originProjection, x_originPosition, x_originInstruction, x_joined, x_removed, x_eventCount, x_cutLevel, x_draftType, x_draftValue, x_ops, x_arguments, x_programLength, x_states, x_noted, x_stack, x_metHeight, x_groupType, x_cursor, x_keptCursor, x_parked, x_rowCount, x_rowPosition, x_rowTimes, x_rowDue⟩ := s
    obtain ⟨y_count, y_flushed, y_calls, y_drafted, y_top, y_time, y_isCut, y_removed, y_stream, y_type, y_from, y_by, y_value, y_version, y_on, y_call, y_draftType, y_draftValue, y_op, y_with, y_length, y_height, y_torn, y_stack, y_position, y_cells, y_noted, y_wanted, y_formed, y_cursor, y_parked, y_where, y_often, y_due, y_many, y_found⟩ := v
    obtain ⟨hQ, hz, hgr, hT, hW, hM⟩ := H
    have hn6 := hgr.1.2.2.1
    have hit : i < nw := by omega
    obtain ⟨⟨a, ha, ea⟩, hwh, hof⟩ := hgr.2.2.2.2.2.1 i hit
    have e6 : 6 * (3 * g + 1) + i = 18 * g + 6 + i := by omega
    obtain ⟨s', v', hK, hX, hY⟩ := em_kins (na' := nt) (nb' := i + 1) (r := 3 * g + 1) (i := i) (x := x_rowPosition (18 * g + 6 + i)) (tm := x_rowTimes (18 * g + 6 + i)) ⟨hQ, hz, hgr, hT, hW, hM⟩ hg (by omega) (by omega) (by omega) (by omega) (by omega) (by omega) ha ea
      (fun j hj e => by
        rw [← hT j (by omega)] at e
        exact hgr.2.2.2.2.2.2.2.2.2.1 j i hj hit e)
      (fun j hj e => by
        rw [← hW j (by omega)] at e
        have := hgr.2.2.2.2.2.2.2.2.1 j i (by omega) hit e
        omega) (Or.inr ⟨i, by omega, hW i hit⟩) (by rw [e6])
    obtain ⟨s2, v2, hK2, hX2, hY2⟩ := ih (i + 1) (by omega) s' v' hK
    refine ⟨s2, v2, hK2, fun post hp => ⟨vp_in_nI (by omega) (by decide), br_f ?_ ?_⟩, fun post hp => ⟨by rw [es_2g]; exact vp_in_nI (by omega) (by decide), br_f ?_ ?_⟩⟩
    · rw [nI_clamp (by omega), hgr.2.2.1.2.2.1]; exact nI_ge hit (by omega)
    · have c1 : (nI (3 * g + 1) * 6 + nI i).toNatClampNeg = 18 * g + 6 + i := by rw [es_6, nI_add, nI_clamp (by omega), e6]
      have v1 : vp_in (nI (3 * g + 1) * 6 + nI i) 36 := by rw [es_6, nI_add]; exact vp_in_nI (by omega) (by decide)
      rw [c1]
      exact ⟨v1, nm_e (hX post (fun x5 s => match s with | (x_records, x_removedCount, x_flushed, x_drafted, x_height, x_time, x_foundAt, x_recordStream, x_recordType, x_recordVersion, x_recordValue, x_originProjection, x_originPosition, x_originInstruction, x_joined, x_removed, x_eventCount, x_cutLevel, x_draftType, x_draftValue, x_ops, x_arguments, x_programLength, x_states, x_noted, x_stack, x_metHeight, x_groupType, x_cursor, x_keptCursor, x_parked, x_rowCount, x_rowPosition, x_rowTimes, x_rowDue) => wX_keepRow_16 post (nI (3 * g + 1)) (nI (3 * g + 2)) (r + 1) x5 x_records x_removedCount x_flushed x_drafted x_height x_time x_foundAt x_recordStream x_recordType x_recordVersion x_recordValue x_originProjection x_originPosition x_originInstruction x_joined x_removed x_eventCount x_cutLevel x_draftType x_draftValue x_ops x_arguments x_programLength x_states x_noted x_stack x_metHeight x_groupType x_cursor x_keptCursor x_parked x_rowCount x_rowPosition x_rowTimes x_rowDue) (hX2 post hp))⟩
    · rw [es_2g, nI_clamp (by omega), hgr.2.2.1.2.2.2.1]; exact nI_ge hit (by omega)
    · have e16 : 16 + 8 * nI g + nI i = nI (16 + 8 * g + i) := by rw [es_8, show (16 : Int32) = nI 16 from rfl, nI_add, nI_add]
      have c1 : (16 + 8 * nI g + nI i).toNatClampNeg = 16 + 8 * g + i := by rw [e16, nI_clamp (by omega)]
      have v1 : vp_in (16 + 8 * nI g + nI i) 64 := by rw [e16]; exact vp_in_nI (by omega) (by decide)
      refine ⟨v1, v1, ?_⟩
      rw [c1, hwh, hof, es_4g]
      have h2 := hY2 post hp
      refine hY _ ?_
      obtain ⟨y_count, y_flushed, y_calls, y_drafted, y_top, y_time, y_isCut, y_removed, y_stream, y_type, y_from, y_by, y_value, y_version, y_on, y_call, y_draftType, y_draftValue, y_op, y_with, y_length, y_height, y_torn, y_stack, y_position, y_cells, y_noted, y_wanted, y_formed, y_cursor, y_parked, y_where, y_often, y_due, y_many, y_found⟩ := v'
      exact nm_r (nI_1 _) h2
theorem em_keep (H : es_Q c c d L q (x_records, x_removedCount, x_flushed, x_drafted, x_height, x_time, x_foundAt, x_recordStream, x_recordType, x_recordVersion, x_recordValue, x_originProjection, x_originPosition, x_originInstruction, x_joined, x_removed, x_eventCount, x_cutLevel, x_draftType, x_draftValue, x_ops, x_arguments, x_programLength, x_states, x_noted, x_stack, x_metHeight, x_groupType, x_cursor, x_keptCursor, x_parked, x_rowCount, x_rowPosition, x_rowTimes, x_rowDue) (y_count, y_flushed, y_calls, y_drafted, y_top, y_time, y_isCut, y_removed, y_stream, y_type, y_from, y_by, y_value, y_version, y_on, y_call, y_draftType, y_draftValue, y_op, y_with, y_length, y_height, y_torn, y_stack, y_position, y_cells, y_noted, y_wanted, y_formed, y_cursor, y_parked, y_where, y_often, y_due, y_many, y_found)) (hg : g < 2) : ∃ (s' : SX) (v' : SY), es_Q c c d L q s' v' ∧ (∀ post : SX → Prop, post s' → wpX_keepGroup post (x_records, x_removedCount, x_flushed, x_drafted, x_height, x_time, x_foundAt, x_recordStream, x_recordType, x_recordVersion, x_recordValue, x_originProjection, x_originPosition, x_originInstruction, x_joined, x_removed, x_eventCount, x_cutLevel, x_draftType, x_draftValue, x_ops, x_arguments, x_programLength, x_states, x_noted, x_stack, x_metHeight, x_groupType, x_cursor, x_keptCursor, x_parked, x_rowCount, x_rowPosition, x_rowTimes, x_rowDue) (nI g)) ∧ (∀ post : SY → Prop, post v' → wpY_keep post (y_count, y_flushed, y_calls, y_drafted, y_top, y_time, y_isCut, y_removed, y_stream, y_type, y_from, y_by, y_value, y_version, y_on, y_call, y_draftType, y_draftValue, y_op, y_with, y_length, y_height, y_torn, y_stack, y_position, y_cells, y_noted, y_wanted, y_formed, y_cursor, y_parked, y_where, y_often, y_due, y_many, y_found) (nI g)) := by
  obtain ⟨hL, hD, hP, hS, hG, hF⟩ := H
  obtain ⟨hfm, nt, nw, nk, u, l, hz, hgr⟩ := hG.2.2 g hg
  have hgr0 : es_Grp c c g nt nw 0 u u x_cursor (upd x_keptCursor g (nI u)) (upd x_rowCount (3 * g + 2) 0) x_rowPosition x_rowTimes x_rowDue (upd y_cursor (2 + g) (nI u)) (upd y_many (4 + g) 0) y_where y_often y_due := by
    obtain ⟨a0, a1, a2, a3, a4, a5, a6, a7, a8, a9, a10⟩ := hgr
    refine ⟨⟨a0.1, a0.1, a0.2.2.1, by omega⟩, ⟨a1.1, ?_, pk_us, pk_us⟩, ⟨?_, ?_, ?_, ?_, pk_us, pk_us⟩, a3, a4, a5, fun i hi => absurd hi (Nat.not_lt_zero _), a7, a8, a9, fun i j _ hj => absurd hj (Nat.not_lt_zero _)⟩
    · rw [pk_un (by omega)]; exact a1.2.1
    · rw [pk_un (by omega)]; exact a2.1
    · rw [pk_un (by omega)]; exact a2.2.1
    · rw [pk_un (by omega)]; exact a2.2.2.1
    · rw [pk_un (by omega)]; exact a2.2.2.2.1
  have hpk := hG.1
  subst hpk
  have hG' := es_RG_set (pk' := y_parked) hG hg hz hgr0 (fun e he => ⟨rfl, rfl, rfl⟩) (fun e he => pk_un (by omega)) (fun e _ _ h => pk_un h) (fun e _ _ _ => ⟨rfl, rfl, rfl⟩) (fun e h => ⟨rfl, pk_un h⟩) (fun e _ h => pk_un h)
  obtain ⟨s1, v1, hK1, hX1, hY1⟩ := em_kT (T := fun i => x_rowPosition (18 * g + i)) (W := fun i => x_rowPosition (18 * g + 6 + i)) hg nt 0 (by omega) (x_records, x_removedCount, x_flushed, x_drafted, x_height, x_time, x_foundAt, x_recordStream, x_recordType, x_recordVersion, x_recordValue, x_originProjection, x_originPosition, x_originInstruction, x_joined, x_removed, x_eventCount, x_cutLevel, x_draftType, x_draftValue, x_ops, x_arguments, x_programLength, x_states, x_noted, x_stack, x_metHeight, x_groupType, x_cursor, upd x_keptCursor g (nI u), y_parked, upd x_rowCount (3 * g + 2) 0, x_rowPosition, x_rowTimes, x_rowDue) (y_count, y_flushed, y_calls, y_drafted, y_top, y_time, y_isCut, y_removed, y_stream, y_type, y_from, y_by, y_value, y_version, y_on, y_call, y_draftType, y_draftValue, y_op, y_with, y_length, y_height, y_torn, y_stack, y_position, y_cells, y_noted, y_wanted, y_formed, upd y_cursor (2 + g) (nI u), y_parked, y_where, y_often, y_due, upd y_many (4 + g) 0, y_found) ⟨⟨hL, hD, hP, hS, hG', hF⟩, hz, hgr0, fun i hi => rfl, fun i hi => rfl, fun j hj => absurd hj (Nat.not_lt_zero _)⟩
  obtain ⟨s2, v2, hK2, hX2, hY2⟩ := em_kW hg nw 0 (by omega) s1 v1 hK1
  refine ⟨s2, v2, hK2.1, fun post hp => ?_, fun post hp => ?_⟩
  · have c32 : (nI g * 3 + 2).toNatClampNeg = 3 * g + 2 := by rw [es_g32, nI_clamp (by omega)]
    refine ⟨vp_in_nI hg (by decide), vp_in_nI hg (by decide), nm_r (e' := upd x_keptCursor g (nI u)) (by rw [nI_clamp (by omega), hgr.2.1.1]) ⟨by rw [es_g32]; exact vp_in_nI (by omega) (by decide), nm_r (e' := upd x_rowCount (3 * g + 2) 0) (by rw [c32]) ?_⟩⟩
    refine nm_r (es_g3 g) (nm_r (es_g32 g) ⟨_, hX1 _ ?_⟩)
    have h2 := hX2 post
    obtain ⟨x_records, x_removedCount, x_flushed, x_drafted, x_height, x_time, x_foundAt, x_recordStream, x_recordType, x_recordVersion, x_recordValue, x_originProjection, x_originPosition, x_originInstruction, x_joined, x_removed, x_eventCount, x_cutLevel, x_draftType, x_draftValue, x_ops, x_arguments, x_programLength, x_states, x_noted, x_stack, x_metHeight, x_groupType, x_cursor, x_keptCursor, x_parked, x_rowCount, x_rowPosition, x_rowTimes, x_rowDue⟩ := s1
    refine nm_r (es_g31 g) (nm_r (es_g32 g) ⟨_, h2 ?_⟩)
    obtain ⟨x_records, x_removedCount, x_flushed, x_drafted, x_height, x_time, x_foundAt, x_recordStream, x_recordType, x_recordVersion, x_recordValue, x_originProjection, x_originPosition, x_originInstruction, x_joined, x_removed, x_eventCount, x_cutLevel, x_draftType, x_draftValue, x_ops, x_arguments, x_programLength, x_states, x_noted, x_stack, x_metHeight, x_groupType, x_cursor, x_keptCursor, x_parked, x_rowCount, x_rowPosition, x_rowTimes, x_rowDue⟩ := s2
    exact hp
  · have c2 : (2 + nI g).toNatClampNeg = 2 + g := by rw [es_2g, nI_clamp (by omega)]
    have c4 : (4 + nI g).toNatClampNeg = 4 + g := by rw [es_4g, nI_clamp (by omega)]
    refine ⟨vp_in_nI (by omega) (by decide), by rw [es_2g]; exact vp_in_nI (by omega) (by decide), nm_r (e' := upd y_cursor (2 + g) (nI u)) (by rw [nI_clamp (by omega), c2, hgr.2.1.2.1]) ⟨by rw [es_4g]; exact vp_in_nI (by omega) (by decide), nm_r (e' := upd y_many (4 + g) 0) (by rw [c4, es_nb_0]) ⟨_, hY1 post ?_⟩⟩⟩
    have h2 := hY2 post hp
    obtain ⟨y_count, y_flushed, y_calls, y_drafted, y_top, y_time, y_isCut, y_removed, y_stream, y_type, y_from, y_by, y_value, y_version, y_on, y_call, y_draftType, y_draftValue, y_op, y_with, y_length, y_height, y_torn, y_stack, y_position, y_cells, y_noted, y_wanted, y_formed, y_cursor, y_parked, y_where, y_often, y_due, y_many, y_found⟩ := v1
    exact ⟨_, h2⟩
end
end
section
section
variable {x_records x_removedCount x_flushed x_drafted x_height x_time x_foundAt : Int32} {x_recordStream x_recordType x_recordVersion x_recordValue x_originProjection x_originPosition x_originInstruction x_joined x_removed x_eventCount x_cutLevel x_draftType x_draftValue x_ops x_arguments x_programLength x_states x_noted x_stack x_metHeight x_groupType x_cursor x_keptCursor x_parked x_rowCount x_rowPosition x_rowTimes x_rowDue : Nat → Int32} {y_count y_flushed y_calls y_drafted y_top y_time : Int32} {y_isCut y_removed y_stream y_type y_from y_by y_value y_version y_on y_call y_draftType y_draftValue y_op y_with y_length y_height y_torn y_stack y_position y_cells y_noted y_wanted y_formed y_cursor y_parked y_where y_often y_due y_many y_found : Nat → Int32} {c f q : Nat} {cut rm str ty fr byi val ver onn call oi jn ec cl : Nat → Int32} {d : Nat} {L : Nat → Nat}
/-- NOTED states become KEPT ones, as far as p -/
def es_FX (st0 xn0 : Nat → Int32) (m : Nat) (st xn : Nat → Int32) : Prop :=
  (∀ p, p < m → xn p = 0 ∧ ∀ k, k < 11 → st (11 * (3 + p) + k) = if xn0 p = 0 then st0 (11 * (3 + p) + k) else st0 (11 * (6 + p) + k)) ∧
  (∀ p, m ≤ p → xn p = xn0 p) ∧ (∀ j, (j < 33 ∨ 33 + 11 * m ≤ j) → st j = st0 j)
def es_FY (po0 ce0 yn0 : Nat → Int32) (m : Nat) (po ce : Nat → Int32) : Prop :=
  (∀ p, p < m → po (3 + p) = (if yn0 p = 0 then po0 (3 + p) else po0 (6 + p)) ∧ ∀ k, k < 10 → ce (10 * (3 + p) + k) = if yn0 p = 0 then ce0 (10 * (3 + p) + k) else ce0 (10 * (6 + p) + k)) ∧
  (∀ r, (r < 3 ∨ 3 + m ≤ r) → po r = po0 r) ∧ (∀ j, (j < 30 ∨ 30 + 10 * m ≤ j) → ce j = ce0 j)
def es_fpo (po0 yn0 : Nat → Int32) : Nat → Int32 := fun r => if 3 ≤ r ∧ r < 6 ∧ ¬ yn0 (r - 3) = 0 then po0 (r + 3) else po0 r
def es_fce (ce0 yn0 : Nat → Int32) : Nat → Int32 := fun j => if 30 ≤ j ∧ j < 60 ∧ ¬ yn0 ((j - 30) / 10) = 0 then ce0 (j + 30) else ce0 j
def es_fyn (yn0 : Nat → Int32) : Nat → Int32 := fun p => if p < 3 then 0 else yn0 p
theorem es_FY_x (po0 ce0 yn0 : Nat → Int32) : es_FY po0 ce0 yn0 3 (es_fpo po0 yn0) (es_fce ce0 yn0) := by
  refine ⟨fun p hp => ⟨?_, fun k hk => ?_⟩, fun r hr => ?_, fun j hj => ?_⟩
  · unfold es_fpo
    rw [show 3 + p - 3 = p by omega]
    by_cases z : yn0 p = 0
    · rw [if_neg (fun w => w.2.2 z), if_pos z]
    · rw [if_pos ⟨by omega, by omega, z⟩, if_neg z, show 3 + p + 3 = 6 + p by omega]
  · unfold es_fce
    rw [show (10 * (3 + p) + k - 30) / 10 = p by omega]
    by_cases z : yn0 p = 0
    · rw [if_neg (fun w => w.2.2 z), if_pos z]
    · rw [if_pos ⟨by omega, by omega, z⟩, if_neg z, show 10 * (3 + p) + k + 30 = 10 * (6 + p) + k by omega]
  · unfold es_fpo
    rw [if_neg (by omega)]
  · unfold es_fce
    rw [if_neg (by omega)]
theorem es_FY_u {po0 ce0 yn0 po ce : Nat → Int32} (h : es_FY po0 ce0 yn0 3 po ce) : po = es_fpo po0 yn0 ∧ ce = es_fce ce0 yn0 := by
  obtain ⟨h1, h2, h3⟩ := h
  obtain ⟨g1, g2, g3⟩ := es_FY_x po0 ce0 yn0
  constructor
  · funext r
    by_cases z : r < 3 ∨ 6 ≤ r
    · rw [h2 r (by omega), g2 r (by omega)]
    · obtain ⟨p, rfl⟩ : ∃ p, r = 3 + p := ⟨r - 3, by omega⟩
      rw [(h1 p (by omega)).1, (g1 p (by omega)).1]
  · funext j
    by_cases z : j < 30 ∨ 60 ≤ j
    · rw [h3 j (by omega), g3 j (by omega)]
    · obtain ⟨p, k, hp, hk, rfl⟩ : ∃ p k, p < 3 ∧ k < 10 ∧ j = 10 * (3 + p) + k := ⟨(j - 30) / 10, (j - 30) % 10, by omega, by omega, by omega⟩
      rw [(h1 p hp).2 k hk, (g1 p hp).2 k hk]
theorem ex_fl {post : Int32 → SX → Prop} {x1 : Int32} (hp : ∀ st xn, es_FX x_states x_noted 3 st xn → ∃ n, wX_flush_56 post x1 n 0 x_records x_removedCount x_flushed x_drafted x_height x_time x_foundAt x_recordStream x_recordType x_recordVersion x_recordValue x_originProjection x_originPosition x_originInstruction x_joined x_removed x_eventCount x_cutLevel x_draftType x_draftValue x_ops x_arguments x_programLength st xn x_stack x_metHeight x_groupType x_cursor x_keptCursor x_parked x_rowCount x_rowPosition x_rowTimes x_rowDue) : ∃ n, wX_flush_20 post x1 n 0 x_records x_removedCount x_flushed x_drafted x_height x_time x_foundAt x_recordStream x_recordType x_recordVersion x_recordValue x_originProjection x_originPosition x_originInstruction x_joined x_removed x_eventCount x_cutLevel x_draftType x_draftValue x_ops x_arguments x_programLength x_states x_noted x_stack x_metHeight x_groupType x_cursor x_keptCursor x_parked x_rowCount x_rowPosition x_rowTimes x_rowDue := by
  refine loop_0 (fun n i (s : (Nat → Int32) × (Nat → Int32)) => wX_flush_20 post x1 n (nI i) x_records x_removedCount x_flushed x_drafted x_height x_time x_foundAt x_recordStream x_recordType x_recordVersion x_recordValue x_originProjection x_originPosition x_originInstruction x_joined x_removed x_eventCount x_cutLevel x_draftType x_draftValue x_ops x_arguments x_programLength s.1 s.2 x_stack x_metHeight x_groupType x_cursor x_keptCursor x_parked x_rowCount x_rowPosition x_rowTimes x_rowDue) (fun i s => es_FX x_states x_noted i s.1 s.2) 3 (x_states, x_noted) ⟨fun p h => absurd h (Nat.not_lt_zero _), fun p _ => rfl, fun j _ => rfl⟩ ?_ ?_
  · intro n s hs
    exact br_t (by decide) (hp _ _ hs)
  · intro n i s hi hs ih
    obtain ⟨st, xn⟩ := s
    obtain ⟨h1, h2, h3⟩ := hs
    refine br_f (nI_ge (b := 3) hi (by decide)) ⟨vp_in_nI hi (by decide), ?_⟩
    rw [nI_clamp (by omega)]
    refine br_c (fun z => nm_r (nI_1 _) (ih (st, xn) ⟨fun p hp => ?_, fun p hp => h2 p (by omega), fun j hj => h3 j (by omega)⟩)) (fun z => ?_)
    · by_cases e : p = i
      · subst e
        have z' : xn p = 0 := z
        refine ⟨z', fun k hk => ?_⟩
        rw [← h2 p (Nat.le_refl p), if_pos z']
        exact h3 _ (by omega)
      · exact h1 p (by omega)
    · have z' : ¬ xn i = 0 := z
      refine ex_copyState (m1 := 2) (m2 := 1) (r1 := 6 + i) (r2 := 3 + i) (by omega) (by omega) hi (by omega) (by omega) (by omega) ⟨vp_in_nI hi (by decide), nm_r (e' := upd xn i 0) (by rw [es_nb0]) (nm_r (nI_1 _) (ih (es_cpy st (11 * (3 + i)) (11 * (6 + i)) 11, upd xn i 0) ⟨fun p hp => ?_, fun p hp => ?_, fun j hj => ?_⟩))⟩
      · by_cases e : p = i
        · subst e
          refine ⟨pk_us, fun k hk => ?_⟩
          rw [← h2 p (Nat.le_refl p), if_neg z']
          show es_cpy st (11 * (3 + p)) (11 * (6 + p)) 11 (11 * (3 + p) + k) = _
          rw [es_cpy_i hk]
          exact h3 _ (by omega)
        · obtain ⟨a, b⟩ := h1 p (by omega)
          refine ⟨(pk_un e).trans a, fun k hk => ?_⟩
          show es_cpy st (11 * (3 + i)) (11 * (6 + i)) 11 (11 * (3 + p) + k) = _
          rw [es_cpy_o (by omega)]
          exact b k hk
      · exact (pk_un (by omega)).trans (h2 p (by omega))
      · show es_cpy st (11 * (3 + i)) (11 * (6 + i)) 11 j = _
        rw [es_cpy_o (by omega)]
        exact h3 j (by omega)
theorem ey_fl53 {post : Int32 → SY → Prop} {x1 : Int32} (hp : ∃ n, wY_flush_73 post x1 n 0 y_count y_flushed y_calls y_drafted y_top y_time y_isCut y_removed y_stream y_type y_from y_by y_value y_version y_on y_call y_draftType y_draftValue y_op y_with y_length y_height y_torn y_stack y_position y_cells (es_fyn y_noted) y_wanted y_formed y_cursor y_parked y_where y_often y_due y_many y_found) : ∃ n, wY_flush_53 post x1 y_count y_flushed y_calls y_drafted y_top y_time n 0 y_isCut y_removed y_stream y_type y_from y_by y_value y_version y_on y_call y_draftType y_draftValue y_op y_with y_length y_height y_torn y_stack y_position y_cells y_noted y_wanted y_formed y_cursor y_parked y_where y_often y_due y_many y_found := by
  refine loop_0 (fun n i s => wY_flush_53 post x1 y_count y_flushed y_calls y_drafted y_top y_time n (nI i) y_isCut y_removed y_stream y_type y_from y_by y_value y_version y_on y_call y_draftType y_draftValue y_op y_with y_length y_height y_torn y_stack y_position y_cells s y_wanted y_formed y_cursor y_parked y_where y_often y_due y_many y_found) (fun i s => (∀ p, p < i → s p = 0) ∧ ∀ p, i ≤ p → s p = y_noted p) 3 y_noted ⟨fun p h => absurd h (Nat.not_lt_zero _), fun p _ => rfl⟩ ?_ ?_
  · intro n s hs
    have e : s = es_fyn y_noted := by
      funext p
      unfold es_fyn
      by_cases z : p < 3
      · rw [if_pos z]; exact hs.1 p z
      · rw [if_neg z]; exact hs.2 p (by omega)
    subst e
    exact br_t (by decide) hp
  · intro n i s hi hs ih
    refine br_f (nI_ge (b := 3) hi (by decide)) ⟨vp_in_nI hi (by decide), nm_r (e' := upd s i 0) (by rw [nI_clamp (by omega), es_nb0]) (nm_r (nI_1 _) (ih _ ⟨fun p hp => ?_, fun p hp => (pk_un (by omega)).trans (hs.2 p (by omega))⟩))⟩
    by_cases e : p = i
    · rw [e, pk_us]
    · rw [pk_un e]; exact hs.1 p (by omega)
theorem ey_fl {post : Int32 → SY → Prop} {x1 : Int32} (hp : ∃ n, wY_flush_73 post x1 n 0 y_count y_flushed y_calls y_drafted y_top y_time y_isCut y_removed y_stream y_type y_from y_by y_value y_version y_on y_call y_draftType y_draftValue y_op y_with y_length y_height y_torn y_stack (es_fpo y_position y_noted) (es_fce y_cells y_noted) (es_fyn y_noted) y_wanted y_formed y_cursor y_parked y_where y_often y_due y_many y_found) : ∃ n, wY_flush_20 post x1 n 0 y_count y_flushed y_calls y_drafted y_top y_time y_isCut y_removed y_stream y_type y_from y_by y_value y_version y_on y_call y_draftType y_draftValue y_op y_with y_length y_height y_torn y_stack y_position y_cells y_noted y_wanted y_formed y_cursor y_parked y_where y_often y_due y_many y_found := by
  refine loop_0 (fun n i (s : (Nat → Int32) × (Nat → Int32)) => wY_flush_20 post x1 n (nI i) y_count y_flushed y_calls y_drafted y_top y_time y_isCut y_removed y_stream y_type y_from y_by y_value y_version y_on y_call y_draftType y_draftValue y_op y_with y_length y_height y_torn y_stack s.1 s.2 y_noted y_wanted y_formed y_cursor y_parked y_where y_often y_due y_many y_found) (fun i s => es_FY y_position y_cells y_noted i s.1 s.2) 3 (y_position, y_cells) ⟨fun p h => absurd h (Nat.not_lt_zero _), fun p _ => rfl, fun j _ => rfl⟩ ?_ ?_
  · intro n s hs
    obtain ⟨po, ce⟩ := s
    obtain ⟨e1, e2⟩ := es_FY_u hs
    have e1 : po = es_fpo y_position y_noted := e1
    have e2 : ce = es_fce y_cells y_noted := e2
    subst e1 e2
    exact br_t (by decide) (ey_fl53 hp)
  · intro n i s hi hs ih
    obtain ⟨po, ce⟩ := s
    obtain ⟨h1, h2, h3⟩ := hs
    have e6 : 6 + nI i = nI (6 + i) := nI_add 6 i
    have e3 : 3 + nI i = nI (3 + i) := nI_add 3 i
    refine br_f (nI_ge (b := 3) hi (by decide)) ⟨vp_in_nI hi (by decide), ?_⟩
    rw [nI_clamp (by omega), e6, e3]
    refine br_c (fun z => nm_r (nI_1 _) (ih (po, ce) ⟨fun p hp => ?_, fun p hp => h2 p (by omega), fun j hj => h3 j (by omega)⟩)) (fun z => ?_)
    · by_cases e : p = i
      · subst e
        rw [if_pos z]
        refine ⟨h2 _ (by omega), fun k hk => ?_⟩
        rw [if_pos z]
        exact h3 _ (by omega)
      · exact h1 p (by omega)
    · refine ey_copyState (by omega) (by omega) (by omega) (nm_r (nI_1 _) (ih (upd po (3 + i) (po (6 + i)), es_cpy ce (10 * (3 + i)) (10 * (6 + i)) 10) ⟨fun p hp => ?_, fun r hr => ?_, fun j hj => ?_⟩))
      · by_cases e : p = i
        · subst e
          refine ⟨?_, fun k hk => ?_⟩
          · rw [if_neg z]
            exact pk_us.trans (h2 _ (by omega))
          · rw [if_neg z]
            show es_cpy ce (10 * (3 + p)) (10 * (6 + p)) 10 (10 * (3 + p) + k) = _
            rw [es_cpy_i hk]
            exact h3 _ (by omega)
        · obtain ⟨a, b⟩ := h1 p (by omega)
          refine ⟨(pk_un (by omega)).trans a, fun k hk => ?_⟩
          show es_cpy ce (10 * (3 + i)) (10 * (6 + i)) 10 (10 * (3 + p) + k) = _
          rw [es_cpy_o (by omega)]
          exact b k hk
      · exact (pk_un (by omega)).trans (h2 r (by omega))
      · show es_cpy ce (10 * (3 + i)) (10 * (6 + i)) 10 j = _
        rw [es_cpy_o (by omega)]
        exact h3 j (by omega)
theorem es_St_fl {st0 xn0 po0 ce0 yn0 st xn po ce yn : Nat → Int32} (H : es_St c f L st0 xn0 po0 ce0 yn0) (hf : f ≤ c) (hx : es_FX st0 xn0 3 st xn) (hy : es_FY po0 ce0 yn0 3 po ce) (hyn : ∀ p, p < 3 → yn p = 0) : es_St c c L st xn po ce yn := by
  intro p hp hl
  obtain ⟨a1, a2, a3, a4⟩ := H p hp hl
  obtain ⟨x1, x2, x3⟩ := hx
  obtain ⟨y1, y2, y3⟩ := hy
  obtain ⟨b1, b2⟩ := x1 p hp
  obtain ⟨c1, c2⟩ := y1 p hp
  refine ⟨es_Eq_c a1 (fun k hk => x3 _ (by omega)) (y2 _ (by omega)) (fun k hk => y3 _ (by omega)), ?_, ?_, fun z => absurd b1 z⟩
  · by_cases z : xn0 p = 0
    · have z' : yn0 p = 0 := a3.mp z
      refine es_Eq_c (es_Eq_m a2 hf) (fun k hk => ?_) ?_ (fun k hk => ?_)
      · rw [b2 k hk, if_pos z]
      · rw [c1, if_pos z']
      · rw [c2 k hk, if_pos z']
    · have z' : ¬ yn0 p = 0 := fun w => z (a3.mpr w)
      obtain ⟨⟨a, ha, e1, e2⟩, h⟩ := a4 z
      refine ⟨⟨a, ha, ?_, ?_⟩, fun k hk => ?_⟩
      · rw [b2 10 (by omega), if_neg z]; exact e1
      · rw [c1, if_neg z']; exact e2
      · rw [b2 k (by omega), if_neg z, c2 k hk, if_neg z']; exact h k hk
  · rw [b1, hyn p hp]
theorem i_vc_flush {k : Nat} {u : SX} {v : SY} (I : i_Rel k u v) (hk : k + 4 ≤ 2048) : wpX_flush (fun r u' => wpY_flush (fun r' v' => r' = r ∧ i_Rel (k + 4) u' v') v) u := by
  obtain ⟨x_records, x_removedCount, x_flushed, x_drafted, x_height, x_time, x_foundAt, x_recordStream, x_recordType, x_recordVersion, x_recordValue, x_originProjection, x_originPosition, x_originInstruction, x_joined, x_removed, x_eventCount, x_cutLevel, x_draftType, x_draftValue, x_ops, x_arguments, x_programLength, x_states, x_noted, x_stack, x_metHeight, x_groupType, x_cursor, x_keptCursor, x_parked, x_rowCount, x_rowPosition, x_rowTimes, x_rowDue⟩ := u
  obtain ⟨y_count, y_flushed, y_calls, y_drafted, y_top, y_time, y_isCut, y_removed, y_stream, y_type, y_from, y_by, y_value, y_version, y_on, y_call, y_draftType, y_draftValue, y_op, y_with, y_length, y_height, y_torn, y_stack, y_position, y_cells, y_noted, y_wanted, y_formed, y_cursor, y_parked, y_where, y_often, y_due, y_many, y_found⟩ := v
  have J := i_up I
  obtain ⟨q, hq, c, f, d, L, hL, hD, hP, hS, hG, hF⟩ := I
  have hl := hL.2.2.2.2.2.2.2.2.2.2.2.2.2
  have hfc : f ≤ c := hl.1.2.1
  have hr := hL.1
  have hc := hL.2.1
  have hf1 := hL.2.2.1
  have hf2 := hL.2.2.2.1
  subst hr hc hf1 hf2
  refine nm_r (e' := nI (c - f)) (pk_sub hfc) (ex_fl (fun st xn hx => ?_))
  have hQ : es_Q c c d L q (nI c, x_removedCount, nI c, x_drafted, x_height, x_time, x_foundAt, x_recordStream, x_recordType, x_recordVersion, x_recordValue, x_originProjection, x_originPosition, x_originInstruction, x_joined, x_removed, x_eventCount, x_cutLevel, x_draftType, x_draftValue, x_ops, x_arguments, x_programLength, st, xn, x_stack, x_metHeight, x_groupType, x_cursor, x_keptCursor, x_parked, x_rowCount, x_rowPosition, x_rowTimes, x_rowDue) (nI c, nI c, y_calls, y_drafted, y_top, y_time, y_isCut, y_removed, y_stream, y_type, y_from, y_by, y_value, y_version, y_on, y_call, y_draftType, y_draftValue, y_op, y_with, y_length, y_height, y_torn, y_stack, es_fpo y_position y_noted, es_fce y_cells y_noted, es_fyn y_noted, y_wanted, y_formed, y_cursor, y_parked, y_where, y_often, y_due, y_many, y_found) :=
    ⟨⟨rfl, rfl, rfl, rfl, hL.2.2.2.2.1, hL.2.2.2.2.2.1, hL.2.2.2.2.2.2.1, hL.2.2.2.2.2.2.2.1, hL.2.2.2.2.2.2.2.2.1, hL.2.2.2.2.2.2.2.2.2.1, hL.2.2.2.2.2.2.2.2.2.2.1, hL.2.2.2.2.2.2.2.2.2.2.2.1, hL.2.2.2.2.2.2.2.2.2.2.2.2.1, es_Log_flush hl⟩, hD, hP, es_St_fl hS hfc hx (es_FY_x _ _ _) (fun p hp => if_pos hp), es_RG_m hG (Nat.le_refl c) hfc, hF⟩
  obtain ⟨s1, v1, hQ1, hX1, hY1⟩ := em_keep (g := 0) hQ (by omega)
  obtain ⟨w_1, w_2, w_3, w_4, w_5, w_6, w_7, w_8, w_9, w_10, w_11, w_12, w_13, w_14, w_15, w_16, w_17, w_18, w_19, w_20, w_21, w_22, w_23, w_24, w_25, w_26, w_27, w_28, w_29, w_30, w_31, w_32, w_33, w_34, w_35⟩ := s1
  obtain ⟨t_1, t_2, t_3, t_4, t_5, t_6, t_7, t_8, t_9, t_10, t_11, t_12, t_13, t_14, t_15, t_16, t_17, t_18, t_19, t_20, t_21, t_22, t_23, t_24, t_25, t_26, t_27, t_28, t_29, t_30, t_31, t_32, t_33, t_34, t_35, t_36⟩ := v1
  obtain ⟨s2, v2, hQ2, hX2, hY2⟩ := em_keep (g := 1) hQ1 (by omega)
  refine ⟨3, br_f (by decide) (hX1 _ (nm_r es_01 (br_f (by decide) (hX2 _ ?_))))⟩
  obtain ⟨w_1, w_2, w_3, w_4, w_5, w_6, w_7, w_8, w_9, w_10, w_11, w_12, w_13, w_14, w_15, w_16, w_17, w_18, w_19, w_20, w_21, w_22, w_23, w_24, w_25, w_26, w_27, w_28, w_29, w_30, w_31, w_32, w_33, w_34, w_35⟩ := s2
  refine nm_r es_12 (br_t (by decide) ?_)
  refine nm_r (e' := nI (c - f)) (pk_sub hfc) (ey_fl ⟨3, br_f (by decide) (hY1 _ (nm_r es_01 (br_f (by decide) (hY2 _ ?_))))⟩)
  obtain ⟨t_1, t_2, t_3, t_4, t_5, t_6, t_7, t_8, t_9, t_10, t_11, t_12, t_13, t_14, t_15, t_16, t_17, t_18, t_19, t_20, t_21, t_22, t_23, t_24, t_25, t_26, t_27, t_28, t_29, t_30, t_31, t_32, t_33, t_34, t_35, t_36⟩ := v2
  exact nm_r es_12 (br_t (by decide) ⟨rfl, q, by omega, c, c, d, L, hQ2⟩)
end
end
section
section
/-! LOW, size -/
variable {x_records x_removedCount x_flushed x_drafted x_height x_time x_foundAt : Int32} {x_recordStream x_recordType x_recordVersion x_recordValue x_originProjection x_originPosition x_originInstruction x_joined x_removed x_eventCount x_cutLevel x_draftType x_draftValue x_ops x_arguments x_programLength x_states x_noted x_stack x_metHeight x_groupType x_cursor x_keptCursor x_parked x_rowCount x_rowPosition x_rowTimes x_rowDue : Nat → Int32} {y_count y_flushed y_calls y_drafted y_top y_time : Int32} {y_isCut y_removed y_stream y_type y_from y_by y_value y_version y_on y_call y_draftType y_draftValue y_op y_with y_length y_height y_torn y_stack y_position y_cells y_noted y_wanted y_formed y_cursor y_parked y_where y_often y_due y_many y_found : Nat → Int32} {c f q : Nat} {cut rm str ty fr byi val ver onn call oi jn ec cl : Nat → Int32} {d : Nat} {L : Nat → Nat} {g nt nw nk u k : Nat}
theorem ex_lowG {post : Int32 → Prop} (hg : g < 2) (h : es_Grp c f g nt nw nk u k x_cursor x_keptCursor x_rowCount x_rowPosition x_rowTimes x_rowDue y_cursor y_many y_where y_often y_due) (hc : k < 2 ^ 31)
    (h0 : nk = 0 → post (nI k)) (h1 : ∀ a, 0 < nk → a < k → x_rowPosition (18 * g + 12) = nI a → post (nI a)) : wpX_lowOfGroup post (x_records, x_removedCount, x_flushed, x_drafted, x_height, x_time, x_foundAt, x_recordStream, x_recordType, x_recordVersion, x_recordValue, x_originProjection, x_originPosition, x_originInstruction, x_joined, x_removed, x_eventCount, x_cutLevel, x_draftType, x_draftValue, x_ops, x_arguments, x_programLength, x_states, x_noted, x_stack, x_metHeight, x_groupType, x_cursor, x_keptCursor, x_parked, x_rowCount, x_rowPosition, x_rowTimes, x_rowDue) (nI g) := by
  obtain ⟨a0, a1, a2, a3, a4, a5, a6, a7, a8, a9, a10⟩ := h
  have cr : (nI (3 * g + 2)).toNatClampNeg = 3 * g + 2 := nI_clamp (by omega)
  have vr : vp_in (nI (3 * g + 2)) 6 := vp_in_nI (by omega) (by decide)
  refine ⟨vp_in_nI hg (by decide), nm_r (e' := nI k) (by rw [nI_clamp (by omega), a1.2.2.1]) (nm_r (es_g32 g) ?_)⟩
  refine loop_0 (fun n i s => wX_lowOfGroup_16 post (nI (3 * g + 2)) x_records x_removedCount x_flushed x_drafted x_height x_time x_foundAt x_recordStream x_recordType x_recordVersion x_recordValue x_originProjection x_originPosition x_originInstruction x_joined x_removed x_eventCount x_cutLevel x_draftType x_draftValue x_ops x_arguments x_programLength x_states x_noted x_stack x_metHeight x_groupType x_cursor x_keptCursor x_parked x_rowCount x_rowPosition x_rowTimes x_rowDue n s (nI i)) (fun i s => (i = 0 → s = nI k) ∧ (0 < i → s = x_rowPosition (18 * g + 12))) nk (nI k) ⟨fun _ => rfl, fun h => absurd h (Nat.lt_irrefl 0)⟩ ?_ ?_
  · intro n s hs
    refine ⟨vr, br_t ?_ ?_⟩
    · rw [cr, a2.2.2.2.2.1]; exact Int32.le_refl _
    · by_cases z : nk = 0
      · rw [hs.1 z]; exact h0 z
      · obtain ⟨⟨a, ha, ea⟩, _⟩ := a6 0 (by omega)
        rw [Nat.add_zero] at ea
        rw [hs.2 (by omega), ea]
        exact h1 a (by omega) ha ea
  · intro n i s hi hs ih
    refine ⟨vr, br_f ?_ ?_⟩
    · rw [cr, a2.2.2.2.2.1]; exact nI_ge hi (by omega)
    · rw [es_6, nI_add, nI_clamp (by omega), show 6 * (3 * g + 2) + i = 18 * g + 12 + i by omega]
      refine ⟨vp_in_nI (by omega) (by decide), nm_e ?_⟩
      by_cases z : i = 0
      · subst z
        obtain ⟨⟨a, ha, ea⟩, _⟩ := a6 0 (by omega)
        rw [hs.1 rfl]
        refine br_f ?_ (nm_r (nI_1 _) (ih _ ⟨fun w => by omega, fun _ => rfl⟩))
        rw [ea]; exact nI_ge ha hc
      · have hlt := a10 0 i (by omega) hi
        rw [Nat.add_zero] at hlt
        rw [hs.2 (by omega)]
        refine br_t (es_nlt (es_ltas hlt)) (nm_r (nI_1 _) (ih _ ⟨fun w => by omega, fun _ => rfl⟩))
theorem em_low2 (H : es_Q c f d L q (x_records, x_removedCount, x_flushed, x_drafted, x_height, x_time, x_foundAt, x_recordStream, x_recordType, x_recordVersion, x_recordValue, x_originProjection, x_originPosition, x_originInstruction, x_joined, x_removed, x_eventCount, x_cutLevel, x_draftType, x_draftValue, x_ops, x_arguments, x_programLength, x_states, x_noted, x_stack, x_metHeight, x_groupType, x_cursor, x_keptCursor, x_parked, x_rowCount, x_rowPosition, x_rowTimes, x_rowDue) (y_count, y_flushed, y_calls, y_drafted, y_top, y_time, y_isCut, y_removed, y_stream, y_type, y_from, y_by, y_value, y_version, y_on, y_call, y_draftType, y_draftValue, y_op, y_with, y_length, y_height, y_torn, y_stack, y_position, y_cells, y_noted, y_wanted, y_formed, y_cursor, y_parked, y_where, y_often, y_due, y_many, y_found)) : ∀ m i, i + m = 2 → ∀ e, e ≤ f → ∃ e', e' ≤ f ∧ (∀ post : Int32 → Prop, post (nI e') → wX_low_51 post x_records x_removedCount x_flushed x_drafted x_height x_time x_foundAt x_recordStream x_recordType x_recordVersion x_recordValue x_originProjection x_originPosition x_originInstruction x_joined x_removed x_eventCount x_cutLevel x_draftType x_draftValue x_ops x_arguments x_programLength x_states x_noted x_stack x_metHeight x_groupType x_cursor x_keptCursor x_parked x_rowCount x_rowPosition x_rowTimes x_rowDue (m + 1) (nI e) (nI i)) ∧ (∀ post : Int32 → Prop, post (nI e') → wY_low_50 post y_count y_flushed y_calls y_drafted y_top y_time y_isCut y_removed y_stream y_type y_from y_by y_value y_version y_on y_call y_draftType y_draftValue y_op y_with y_length y_height y_torn y_stack y_position y_cells y_noted y_wanted y_formed y_cursor y_parked y_where y_often y_due y_many y_found (m + 1) (nI e) (nI i)) := by
  have hfc : f ≤ 2000 := by have := H.1.2.2.2.2.2.2.2.2.2.2.2.2.2.1; omega
  intro m
  induction m with
  | zero =>
    intro i hi e he
    exact ⟨e, he, fun post hp => br_t (nI_le (a := 2) (by omega) (by omega)) hp, fun post hp => br_t (nI_le (a := 2) (by omega) (by omega)) hp⟩
  | succ m ih =>
    intro i hi e he
    have hi2 : i < 2 := by omega
    obtain ⟨hfm, nt, nw, nk, w, l, hz, hgr⟩ := H.2.2.2.2.1.2.2 i hi2
    have hff := es_Frm_f hfm
    have hl := hgr.1.2.1
    have ci : (nI i).toNatClampNeg = i := nI_clamp (by omega)
    have vi : vp_in (nI i) 2 := vp_in_nI hi2 (by decide)
    have n2 : ¬ (2 : Int32) ≤ nI i := nI_ge (b := 2) hi2 (by decide)
    by_cases hf : y_formed i = 0
    · obtain ⟨e', he', hX, hY⟩ := ih (i + 1) (by omega) e he
      refine ⟨e', he', fun post hp => br_f n2 ⟨vi, br_t ?_ (nm_r (nI_1 _) (hX post hp))⟩, fun post hp => br_f n2 ⟨vi, br_t ?_ (nm_r (nI_1 _) (hY post hp))⟩⟩
      · rw [ci]; exact hff.mpr hf
      · rw [ci]; exact hf
    · have hgx : ¬ x_groupType (nI i).toNatClampNeg = -1 := by rw [ci]; exact fun z => hf (hff.mp z)
      have hgy : ¬ y_formed (nI i).toNatClampNeg = 0 := by rw [ci]; exact hf
      have v4 : vp_in (2 + nI i) 4 := by rw [es_2g]; exact vp_in_nI (by omega) (by decide)
      have c4 : (2 + nI i).toNatClampNeg = 2 + i := by rw [es_2g, nI_clamp (by omega)]
      have hcy : y_cursor (2 + nI i).toNatClampNeg = nI l := by rw [c4, hgr.2.1.2.2.2]
      have v46 : vp_in (4 + nI i) 6 := by rw [es_4g]; exact vp_in_nI (by omega) (by decide)
      have c46 : (4 + nI i).toNatClampNeg = 4 + i := by rw [es_4g, nI_clamp (by omega)]
      have hmk : y_many (4 + nI i).toNatClampNeg = nI nk := by rw [c46, hgr.2.2.1.2.2.2.2.2]
      have hnk := hgr.1.2.2.2
      have e32 : 32 + 8 * nI i = nI (32 + 8 * i) := by rw [es_8]; exact nI_add 32 _
      have v32 : vp_in (32 + 8 * nI i) 64 := by rw [e32]; exact vp_in_nI (by omega) (by decide)
      have c32 : (32 + 8 * nI i).toNatClampNeg = 32 + 8 * i := by rw [e32, nI_clamp (by omega)]
      by_cases n0 : nk = 0
      · -- the kept cursor alone
        by_cases z : e ≤ l
        · obtain ⟨e', he', hX, hY⟩ := ih (i + 1) (by omega) e he
          refine ⟨e', he', fun post hp => br_f n2 ⟨vi, br_f hgx (ex_lowG hi2 hgr (by omega) (fun _ => br_t (nI_le z (by omega)) (nm_r (nI_1 _) (hX post hp))) (fun a h => absurd h (by omega)))⟩, fun post hp => br_f n2 ⟨vi, br_f hgy ⟨v4, br_t ?_ ⟨v46, br_t ?_ (nm_r (nI_1 _) (hY post hp))⟩⟩⟩⟩
          · rw [hcy]; exact nI_le z (by omega)
          · rw [hmk, n0]; exact Int32.le_refl 0
        · obtain ⟨e', he', hX, hY⟩ := ih (i + 1) (by omega) l (by omega)
          refine ⟨e', he', fun post hp => br_f n2 ⟨vi, br_f hgx (ex_lowG hi2 hgr (by omega) (fun _ => br_f (nI_ge (by omega) (by omega)) (nm_r (nI_1 _) (hX post hp))) (fun a h => absurd h (by omega)))⟩, fun post hp => br_f n2 ⟨vi, br_f hgy ⟨v4, br_f ?_ ⟨v4, nm_r hcy ⟨v46, br_t ?_ (nm_r (nI_1 _) (hY post hp))⟩⟩⟩⟩⟩
          · rw [hcy]; exact nI_ge (by omega) (by omega)
          · rw [hmk, n0]; exact Int32.le_refl 0
      · obtain ⟨⟨a, ha, ea⟩, hwh, _⟩ := hgr.2.2.2.2.2.2.1 0 (by omega)
        rw [Nat.add_zero] at ea hwh
        rw [Nat.add_zero] at hwh
        have hw : y_where (32 + 8 * nI i).toNatClampNeg = nI a := by rw [c32, hwh, ea]
        have ym : ¬ y_many (4 + nI i).toNatClampNeg ≤ 0 := by rw [hmk]; exact nI_nle (by omega) (by omega)
        have huniq : ∀ b, x_rowPosition (18 * i + 12) = nI b → b < l → b = a := fun b hb hbl => es_inj (hb.symm.trans ea) (by omega) (by omega)
        by_cases z : e ≤ a
        · obtain ⟨e', he', hX, hY⟩ := ih (i + 1) (by omega) e he
          refine ⟨e', he', fun post hp => br_f n2 ⟨vi, br_f hgx (ex_lowG hi2 hgr (by omega) (fun h => absurd h n0) (fun b _ hbl hb => ?_))⟩, fun post hp => br_f n2 ⟨vi, br_f hgy ⟨v4, br_t ?_ ⟨v46, br_f ym ⟨v32, br_t ?_ (nm_r (nI_1 _) (hY post hp))⟩⟩⟩⟩⟩
          · rw [huniq b hb hbl]
            exact br_t (nI_le z (by omega)) (nm_r (nI_1 _) (hX post hp))
          · rw [hcy]; exact nI_le (by omega) (by omega)
          · rw [hw]; exact nI_le z (by omega)
        · obtain ⟨e', he', hX, hY⟩ := ih (i + 1) (by omega) a (by omega)
          have fin : ∀ (post : Int32 → Prop) (x : Nat), post (nI e') → a < x → x ≤ f → wY_low_88 post (wY_low_50 post y_count y_flushed y_calls y_drafted y_top y_time y_isCut y_removed y_stream y_type y_from y_by y_value y_version y_on y_call y_draftType y_draftValue y_op y_with y_length y_height y_torn y_stack y_position y_cells y_noted y_wanted y_formed y_cursor y_parked y_where y_often y_due y_many y_found (m + 1)) (nI x) (nI i) y_count y_flushed y_calls y_drafted y_top y_time y_isCut y_removed y_stream y_type y_from y_by y_value y_version y_on y_call y_draftType y_draftValue y_op y_with y_length y_height y_torn y_stack y_position y_cells y_noted y_wanted y_formed y_cursor y_parked y_where y_often y_due y_many y_found := by
            intro post x hp hx hxf
            refine ⟨v46, br_f ym ⟨v32, br_f ?_ ⟨v32, nm_r hw (nm_r (nI_1 _) (hY post hp))⟩⟩⟩
            rw [hw]; exact nI_ge hx (by omega)
          refine ⟨e', he', fun post hp => br_f n2 ⟨vi, br_f hgx (ex_lowG hi2 hgr (by omega) (fun h => absurd h n0) (fun b _ hbl hb => ?_))⟩, fun post hp => br_f n2 ⟨vi, br_f hgy ⟨v4, br_c (fun _ => fin post e hp (by omega) he) (fun _ => ⟨v4, nm_r hcy (fin post l hp ha (by omega))⟩)⟩⟩⟩
          rw [huniq b hb hbl]
          exact br_f (nI_ge (by omega) (by omega)) (nm_r (nI_1 _) (hX post hp))
theorem em_low1 (H : es_Q c f d L q (x_records, x_removedCount, x_flushed, x_drafted, x_height, x_time, x_foundAt, x_recordStream, x_recordType, x_recordVersion, x_recordValue, x_originProjection, x_originPosition, x_originInstruction, x_joined, x_removed, x_eventCount, x_cutLevel, x_draftType, x_draftValue, x_ops, x_arguments, x_programLength, x_states, x_noted, x_stack, x_metHeight, x_groupType, x_cursor, x_keptCursor, x_parked, x_rowCount, x_rowPosition, x_rowTimes, x_rowDue) (y_count, y_flushed, y_calls, y_drafted, y_top, y_time, y_isCut, y_removed, y_stream, y_type, y_from, y_by, y_value, y_version, y_on, y_call, y_draftType, y_draftValue, y_op, y_with, y_length, y_height, y_torn, y_stack, y_position, y_cells, y_noted, y_wanted, y_formed, y_cursor, y_parked, y_where, y_often, y_due, y_many, y_found)) : ∀ m i, i + m = 3 → ∀ e, e ≤ f → ∃ e', e' ≤ f ∧ (∀ post : Int32 → Prop, post (nI e') → wX_low_7 post x_records x_removedCount x_flushed x_drafted x_height x_time x_foundAt x_recordStream x_recordType x_recordVersion x_recordValue x_originProjection x_originPosition x_originInstruction x_joined x_removed x_eventCount x_cutLevel x_draftType x_draftValue x_ops x_arguments x_programLength x_states x_noted x_stack x_metHeight x_groupType x_cursor x_keptCursor x_parked x_rowCount x_rowPosition x_rowTimes x_rowDue (m + 1) (nI e) (nI i)) ∧ (∀ post : Int32 → Prop, post (nI e') → wY_low_7 post y_count y_flushed y_calls y_drafted y_top y_time y_isCut y_removed y_stream y_type y_from y_by y_value y_version y_on y_call y_draftType y_draftValue y_op y_with y_length y_height y_torn y_stack y_position y_cells y_noted y_wanted y_formed y_cursor y_parked y_where y_often y_due y_many y_found (m + 1) (nI e) (nI i)) := by
  have hfc : f ≤ 2000 := by have := H.1.2.2.2.2.2.2.2.2.2.2.2.2.2.1; omega
  intro m
  induction m with
  | zero =>
    intro i hi e he
    obtain ⟨e', he', hX, hY⟩ := em_low2 H 2 0 (by omega) e he
    exact ⟨e', he', fun post hp => br_t (nI_le (a := 3) (by omega) (by omega)) ⟨_, hX post hp⟩, fun post hp => br_t (nI_le (a := 3) (by omega) (by omega)) ⟨_, hY post hp⟩⟩
  | succ m ih =>
    intro i hi e he
    have hi3 : i < 3 := by omega
    have ci : (nI i).toNatClampNeg = i := nI_clamp (by omega)
    have v4 : vp_in (nI i) 4 := vp_in_nI (by omega) (by decide)
    have n3 : ¬ (3 : Int32) ≤ nI i := nI_ge (b := 3) hi3 (by decide)
    have hlen := (H.2.2.1.2.1 i).1
    have hxl : x_programLength (nI i).toNatClampNeg = nI (L i) := by rw [ci, ← H.2.2.1.1, hlen]
    have hyl : y_length (nI i).toNatClampNeg = nI (L i) := by rw [ci, hlen]
    have hL14 := (H.2.2.1.2.1 i).2
    have ex : nI (11 * (3 * 1 + i)) + 10 = nI (11 * (3 + i) + 10) := by rw [show 11 * (3 * 1 + i) = 11 * (3 + i) by omega]; exact nI_add _ 10
    have vx : vp_in (nI (11 * (3 * 1 + i)) + 10) 99 := by rw [ex]; exact vp_in_nI (by omega) (by decide)
    have cx : (nI (11 * (3 * 1 + i)) + 10).toNatClampNeg = 11 * (3 + i) + 10 := by rw [ex, nI_clamp (by omega)]
    by_cases l0 : L i = 0
    · obtain ⟨e', he', hX, hY⟩ := ih (i + 1) (by omega) e he
      refine ⟨e', he', fun post hp => br_f n3 (ex_stateBase (m := 1) ⟨vx, nm_e ⟨v4, br_t ?_ (nm_r (nI_1 _) (hX post hp))⟩⟩), fun post hp => br_f n3 ⟨v4, br_t ?_ (nm_r (nI_1 _) (hY post hp))⟩⟩
      · rw [hxl, l0]; exact Int32.le_refl 0
      · rw [hyl, l0]; exact Int32.le_refl 0
    · obtain ⟨_, ⟨⟨a, ha, e1, e2⟩, _⟩, _⟩ := H.2.2.2.1 i hi3 (by omega)
      have xl : ¬ x_programLength (nI i).toNatClampNeg ≤ 0 := by rw [hxl]; exact nI_nle (by omega) (by omega)
      have yl : ¬ y_length (nI i).toNatClampNeg ≤ 0 := by rw [hyl]; exact nI_nle (by omega) (by omega)
      have e3 : 3 + nI i = nI (3 + i) := nI_add 3 i
      have v9 : vp_in (3 + nI i) 9 := by rw [e3]; exact vp_in_nI (by omega) (by decide)
      have c9 : y_position (3 + nI i).toNatClampNeg = nI a := by rw [e3, nI_clamp (by omega), e2]
      by_cases z : e ≤ a
      · obtain ⟨e', he', hX, hY⟩ := ih (i + 1) (by omega) e he
        refine ⟨e', he', fun post hp => br_f n3 (ex_stateBase (m := 1) ⟨vx, nm_r (e' := nI a) (by rw [cx, e1]) ⟨v4, br_f xl (br_t (nI_le z (by omega)) (nm_r (nI_1 _) (hX post hp)))⟩⟩), fun post hp => br_f n3 ⟨v4, br_f yl ⟨v9, br_t ?_ (nm_r (nI_1 _) (hY post hp))⟩⟩⟩
        rw [c9]; exact nI_le z (by omega)
      · obtain ⟨e', he', hX, hY⟩ := ih (i + 1) (by omega) a (by omega)
        refine ⟨e', he', fun post hp => br_f n3 (ex_stateBase (m := 1) ⟨vx, nm_r (e' := nI a) (by rw [cx, e1]) ⟨v4, br_f xl (br_f (nI_ge (by omega) (by omega)) (nm_r (nI_1 _) (hX post hp)))⟩⟩), fun post hp => br_f n3 ⟨v4, br_f yl ⟨v9, br_f ?_ ⟨v9, nm_r c9 (nm_r (nI_1 _) (hY post hp))⟩⟩⟩⟩
        rw [c9]; exact nI_ge (by omega) (by omega)
theorem em_low (H : es_Q c f d L q (x_records, x_removedCount, x_flushed, x_drafted, x_height, x_time, x_foundAt, x_recordStream, x_recordType, x_recordVersion, x_recordValue, x_originProjection, x_originPosition, x_originInstruction, x_joined, x_removed, x_eventCount, x_cutLevel, x_draftType, x_draftValue, x_ops, x_arguments, x_programLength, x_states, x_noted, x_stack, x_metHeight, x_groupType, x_cursor, x_keptCursor, x_parked, x_rowCount, x_rowPosition, x_rowTimes, x_rowDue) (y_count, y_flushed, y_calls, y_drafted, y_top, y_time, y_isCut, y_removed, y_stream, y_type, y_from, y_by, y_value, y_version, y_on, y_call, y_draftType, y_draftValue, y_op, y_with, y_length, y_height, y_torn, y_stack, y_position, y_cells, y_noted, y_wanted, y_formed, y_cursor, y_parked, y_where, y_often, y_due, y_many, y_found)) : ∃ e, e ≤ f ∧ (∀ post : Int32 → Prop, post (nI e) → wpX_low post (x_records, x_removedCount, x_flushed, x_drafted, x_height, x_time, x_foundAt, x_recordStream, x_recordType, x_recordVersion, x_recordValue, x_originProjection, x_originPosition, x_originInstruction, x_joined, x_removed, x_eventCount, x_cutLevel, x_draftType, x_draftValue, x_ops, x_arguments, x_programLength, x_states, x_noted, x_stack, x_metHeight, x_groupType, x_cursor, x_keptCursor, x_parked, x_rowCount, x_rowPosition, x_rowTimes, x_rowDue)) ∧ (∀ post : Int32 → Prop, post (nI e) → wpY_low post (y_count, y_flushed, y_calls, y_drafted, y_top, y_time, y_isCut, y_removed, y_stream, y_type, y_from, y_by, y_value, y_version, y_on, y_call, y_draftType, y_draftValue, y_op, y_with, y_length, y_height, y_torn, y_stack, y_position, y_cells, y_noted, y_wanted, y_formed, y_cursor, y_parked, y_where, y_often, y_due, y_many, y_found)) := by
  obtain ⟨e, he, hX, hY⟩ := em_low1 H 3 0 (by omega) f (Nat.le_refl f)
  refine ⟨e, he, fun post hp => ⟨4, ?_⟩, fun post hp => ⟨4, ?_⟩⟩
  · have := hX post hp
    rw [← H.1.2.2.1] at this
    exact this
  · have := hY post hp
    rw [← H.1.2.2.2.1] at this
    exact this
theorem i_vc_size {k : Nat} {u : SX} {v : SY} (I : i_Rel k u v) (hk : k + 4 ≤ 2048) (v1 : Int32) : wpX_size (fun r => wpY_size (fun r' => r' = r ∧ i_Rel (k + 4) u v) v v1) u v1 := by
  obtain ⟨x_records, x_removedCount, x_flushed, x_drafted, x_height, x_time, x_foundAt, x_recordStream, x_recordType, x_recordVersion, x_recordValue, x_originProjection, x_originPosition, x_originInstruction, x_joined, x_removed, x_eventCount, x_cutLevel, x_draftType, x_draftValue, x_ops, x_arguments, x_programLength, x_states, x_noted, x_stack, x_metHeight, x_groupType, x_cursor, x_keptCursor, x_parked, x_rowCount, x_rowPosition, x_rowTimes, x_rowDue⟩ := u
  obtain ⟨y_count, y_flushed, y_calls, y_drafted, y_top, y_time, y_isCut, y_removed, y_stream, y_type, y_from, y_by, y_value, y_version, y_on, y_call, y_draftType, y_draftValue, y_op, y_with, y_length, y_height, y_torn, y_stack, y_position, y_cells, y_noted, y_wanted, y_formed, y_cursor, y_parked, y_where, y_often, y_due, y_many, y_found⟩ := v
  have J := i_up I
  obtain ⟨q, hq, c, f, d, L, hQ⟩ := I
  obtain ⟨e, he, hX, hY⟩ := em_low hQ
  have hc2 : c ≤ 2000 := hQ.1.2.2.2.2.2.2.2.2.2.2.2.2.2.1.1
  have hrc := es_rc_le y_removed c
  obtain ⟨r1, r2, r3, r4, r5, r6, _⟩ := hQ.1
  dsimp only [wpX_size, wpY_size]
  rcases es_rg v1 4 (by decide) with h | ⟨w, hw, rfl⟩
  · by_cases z : v1 < 0
    · exact br_t z (br_t z ⟨rfl, J⟩)
    · have z3 : (3 : Int32) < v1 := es_ltle (show (3 : Int32) < nI 4 by decide) (h.resolve_left z)
      exact br_f z (br_t z3 (br_f z (br_t z3 ⟨rfl, J⟩)))
  · have n0 : ¬ nI w < 0 := nI_pos (by omega)
    have n3 : ¬ (3 : Int32) < nI w := nI_nlt (a := 3) (by omega) (by decide)
    have hcases : w = 0 ∨ w = 1 ∨ w = 2 ∨ w = 3 := by omega
    rcases hcases with e | e | e | e <;> subst e
    · exact br_f n0 (br_f n3 (br_t rfl (br_f n0 (br_f n3 (br_t rfl ⟨by rw [r1, r2], J⟩)))))
    · exact br_f n0 (br_f n3 (br_f (by decide) (br_t rfl (br_f n0 (br_f n3 (br_f (by decide) (br_t rfl ⟨by rw [r3, r4], J⟩)))))))
    · refine br_f n0 (br_f n3 (br_f (by decide) (br_f (by decide) (br_t rfl (br_f n0 (br_f n3 (br_f (by decide) (br_f (by decide) (br_t rfl ?_)))))))))
      have key : wpY_there (fun r_6 => r_6 = nI (c - es_rc y_removed c) ∧ i_Rel (k + 4) (x_records, x_removedCount, x_flushed, x_drafted, x_height, x_time, x_foundAt, x_recordStream, x_recordType, x_recordVersion, x_recordValue, x_originProjection, x_originPosition, x_originInstruction, x_joined, x_removed, x_eventCount, x_cutLevel, x_draftType, x_draftValue, x_ops, x_arguments, x_programLength, x_states, x_noted, x_stack, x_metHeight, x_groupType, x_cursor, x_keptCursor, x_parked, x_rowCount, x_rowPosition, x_rowTimes, x_rowDue) (y_count, y_flushed, y_calls, y_drafted, y_top, y_time, y_isCut, y_removed, y_stream, y_type, y_from, y_by, y_value, y_version, y_on, y_call, y_draftType, y_draftValue, y_op, y_with, y_length, y_height, y_torn, y_stack, y_position, y_cells, y_noted, y_wanted, y_formed, y_cursor, y_parked, y_where, y_often, y_due, y_many, y_found)) (y_count, y_flushed, y_calls, y_drafted, y_top, y_time, y_isCut, y_removed, y_stream, y_type, y_from, y_by, y_value, y_version, y_on, y_call, y_draftType, y_draftValue, y_op, y_with, y_length, y_height, y_torn, y_stack, y_position, y_cells, y_noted, y_wanted, y_formed, y_cursor, y_parked, y_where, y_often, y_due, y_many, y_found) := by
        subst r2 r4 r5
        exact ey_there hc2 ⟨rfl, J⟩
      rw [r1, r6, pk_sub hrc]
      rw [r1, r6] at key
      exact key
    · exact br_f n0 (br_f n3 (br_f (by decide) (br_f (by decide) (br_f (by decide) (br_t rfl (hX _ (br_f n0 (br_f n3 (br_f (by decide) (br_f (by decide) (br_f (by decide) (br_t rfl (hY _ ⟨rfl, J⟩)))))))))))))
end
end
section
section
/-! scavenge -/
variable {x_records x_removedCount x_flushed x_drafted x_height x_time x_foundAt : Int32} {x_recordStream x_recordType x_recordVersion x_recordValue x_originProjection x_originPosition x_originInstruction x_joined x_removed x_eventCount x_cutLevel x_draftType x_draftValue x_ops x_arguments x_programLength x_states x_noted x_stack x_metHeight x_groupType x_cursor x_keptCursor x_parked x_rowCount x_rowPosition x_rowTimes x_rowDue : Nat → Int32} {y_count y_flushed y_calls y_drafted y_top y_time : Int32} {y_isCut y_removed y_stream y_type y_from y_by y_value y_version y_on y_call y_draftType y_draftValue y_op y_with y_length y_height y_torn y_stack y_position y_cells y_noted y_wanted y_formed y_cursor y_parked y_where y_often y_due y_many y_found : Nat → Int32} {c f q : Nat} {cut rm str ty fr byi val ver onn call oi jn ec cl : Nat → Int32} {d : Nat} {L : Nat → Nat}
/-- one record of the component's inner loop -/
theorem ex_scav65 {post : Int32 → SX → Prop} {J12 J31 : Int32 → Int32 → (Nat → Int32) → (Nat → Int32) → (Nat → Int32) → (Nat → Int32) → (Nat → Int32) → (Nat → Int32) → (Nat → Int32) → (Nat → Int32) → (Nat → Int32) → (Nat → Int32) → (Nat → Int32) → (Nat → Int32) → (Nat → Int32) → (Nat → Int32) → (Nat → Int32) → (Nat → Int32) → (Nat → Int32) → (Nat → Int32) → (Nat → Int32) → (Nat → Int32) → (Nat → Int32) → (Nat → Int32) → (Nat → Int32) → (Nat → Int32) → (Nat → Int32) → (Nat → Int32) → (Nat → Int32) → (Nat → Int32) → Prop} {i a : Nat} {x1 x2 x4 z0 : Int32} {r : Nat → Int32} (ha : a < c) (hc : c ≤ 2000) (hz : str a = nI i → (z0 = 0 ↔ ¬ es_go cut str val ver f a))
    (h1 : ¬ (str a = nI i ∧ es_go cut str val ver f a) → J31 (nI (a + 1)) (nI (es_rc r c)) str (es_T cut ty) (es_V cut ver val) (es_W cut val) fr onn oi jn r ec cl x_draftType x_draftValue x_ops x_arguments x_programLength x_states x_noted x_stack x_metHeight x_groupType x_cursor x_keptCursor x_parked x_rowCount x_rowPosition x_rowTimes x_rowDue) (h2 : (str a = nI i ∧ es_go cut str val ver f a) → ¬ r a = 0 → J31 (nI (a + 1)) (nI (es_rc r c)) str (es_T cut ty) (es_V cut ver val) (es_W cut val) fr onn oi jn r ec cl x_draftType x_draftValue x_ops x_arguments x_programLength x_states x_noted x_stack x_metHeight x_groupType x_cursor x_keptCursor x_parked x_rowCount x_rowPosition x_rowTimes x_rowDue) (h3 : (str a = nI i ∧ es_go cut str val ver f a) → r a = 0 → J31 (nI (a + 1)) (nI (es_rc (upd r a 1) c)) str (es_T cut ty) (es_V cut ver val) (es_W cut val) fr onn oi jn (upd r a 1) ec cl x_draftType x_draftValue x_ops x_arguments x_programLength x_states x_noted x_stack x_metHeight x_groupType x_cursor x_keptCursor x_parked x_rowCount x_rowPosition x_rowTimes x_rowDue) :
    wX_scavenge_65 post J12 J31 x1 x2 (nI i) x4 (nI a) z0 (nI c) (nI (es_rc r c)) (nI f) x_drafted x_height x_time x_foundAt str (es_T cut ty) (es_V cut ver val) (es_W cut val) fr onn oi jn r ec cl x_draftType x_draftValue x_ops x_arguments x_programLength x_states x_noted x_stack x_metHeight x_groupType x_cursor x_keptCursor x_parked x_rowCount x_rowPosition x_rowTimes x_rowDue := by
  have ca : (nI a).toNatClampNeg = a := nI_clamp (by omega)
  have va : vp_in (nI a) 2000 := vp_in_nI (by omega) (by decide)
  refine ⟨va, ?_⟩
  rw [ca]
  refine br_c (fun z => ⟨va, br_c (fun w => ?_) (fun w => ?_)⟩) (fun z => nm_r (nI_1 _) (h1 (fun y => z y.1)))
  · by_cases g : es_go cut str val ver f a
    · refine br_f (fun y => (hz z).mp y g) ⟨va, nm_r (e' := upd r a 1) (by rw [es_nb1]) (nm_r (e' := nI (es_rc (upd r a 1) c)) (by rw [es_rc_u w (by decide) c ha]; exact nI_1 _) (nm_r (nI_1 _) (h3 ⟨z, g⟩ w)))⟩
    · exact br_t ((hz z).mpr g) (nm_r (nI_1 _) (h1 (fun y => g y.2)))
  · by_cases g : es_go cut str val ver f a
    · exact nm_r (nI_1 _) (h2 ⟨z, g⟩ w)
    · exact nm_r (nI_1 _) (h1 (fun y => g y.2))
theorem ex_scav31 {post : Int32 → SX → Prop} {J12 : Int32 → Int32 → (Nat → Int32) → (Nat → Int32) → (Nat → Int32) → (Nat → Int32) → (Nat → Int32) → (Nat → Int32) → (Nat → Int32) → (Nat → Int32) → (Nat → Int32) → (Nat → Int32) → (Nat → Int32) → (Nat → Int32) → (Nat → Int32) → (Nat → Int32) → (Nat → Int32) → (Nat → Int32) → (Nat → Int32) → (Nat → Int32) → (Nat → Int32) → (Nat → Int32) → (Nat → Int32) → (Nat → Int32) → (Nat → Int32) → (Nat → Int32) → (Nat → Int32) → (Nat → Int32) → (Nat → Int32) → (Nat → Int32) → Prop} {i e : Nat} {x2 : Int32} {r0 : Nat → Int32} {P : Nat → Prop} (hec : e ≤ c) (hc : c ≤ 2000) (ht : ∀ i, ¬ ty i = -1) (h0 : es_Rm rm r0 P)
    (hp : ∀ r, es_Rm rm r (fun j => P j ∨ (j < e ∧ str j = nI i ∧ es_go cut str val ver f j)) → J12 (nI (i + 1)) (nI (es_rc r c)) str (es_T cut ty) (es_V cut ver val) (es_W cut val) fr onn oi jn r ec cl x_draftType x_draftValue x_ops x_arguments x_programLength x_states x_noted x_stack x_metHeight x_groupType x_cursor x_keptCursor x_parked x_rowCount x_rowPosition x_rowTimes x_rowDue) :
    ∃ n, wX_scavenge_31 post J12 (nI e) x2 (nI i) (es_cm cut str val (nI i) f) (nI c) (nI f) x_drafted x_height x_time x_foundAt n 0 (nI (es_rc r0 c)) str (es_T cut ty) (es_V cut ver val) (es_W cut val) fr onn oi jn r0 ec cl x_draftType x_draftValue x_ops x_arguments x_programLength x_states x_noted x_stack x_metHeight x_groupType x_cursor x_keptCursor x_parked x_rowCount x_rowPosition x_rowTimes x_rowDue := by
  refine loop_0 (fun n a r => wX_scavenge_31 post J12 (nI e) x2 (nI i) (es_cm cut str val (nI i) f) (nI c) (nI f) x_drafted x_height x_time x_foundAt n (nI a) (nI (es_rc r c)) str (es_T cut ty) (es_V cut ver val) (es_W cut val) fr onn oi jn r ec cl x_draftType x_draftValue x_ops x_arguments x_programLength x_states x_noted x_stack x_metHeight x_groupType x_cursor x_keptCursor x_parked x_rowCount x_rowPosition x_rowTimes x_rowDue) (fun a r => es_Rm rm r (fun j => P j ∨ (j < a ∧ str j = nI i ∧ es_go cut str val ver f j))) e r0 (es_Rm_i h0 (fun j => ⟨Or.inl, fun h => h.elim id (fun h => absurd h.1 (Nat.not_lt_zero _))⟩)) ?_ ?_
  · intro n r hr
    exact br_t (Int32.le_refl _) (nm_r (nI_1 _) (hp r hr))
  · intro n a r ha hr ih
    have ca : (nI a).toNatClampNeg = a := nI_clamp (by omega)
    have va : vp_in (nI a) 2000 := vp_in_nI (by omega) (by decide)
    have fin : ∀ z0 : Int32, (str a = nI i → (z0 = 0 ↔ ¬ es_go cut str val ver f a)) → wX_scavenge_65 post J12 ((wX_scavenge_31 post J12 (nI e) x2 (nI i) (es_cm cut str val (nI i) f) (nI c) (nI f) x_drafted x_height x_time x_foundAt n)) (nI e) x2 (nI i) (es_cm cut str val (nI i) f) (nI a) z0 (nI c) (nI (es_rc r c)) (nI f) x_drafted x_height x_time x_foundAt str (es_T cut ty) (es_V cut ver val) (es_W cut val) fr onn oi jn r ec cl x_draftType x_draftValue x_ops x_arguments x_programLength x_states x_noted x_stack x_metHeight x_groupType x_cursor x_keptCursor x_parked x_rowCount x_rowPosition x_rowTimes x_rowDue := by
      intro z0 hz
      refine ex_scav65 (by omega) hc hz (fun h => ih r (es_Rm_i hr (fun j => ?_))) (fun h w => ih r (es_Rm_g hr w (fun j => ?_))) (fun h w => ih (upd r a 1) (es_Rm_a hr (fun j => ?_)))
      · refine ⟨fun y => y.elim Or.inl (fun y => Or.inr ⟨by omega, y.2⟩), fun y => y.elim Or.inl (fun y => ?_)⟩
        by_cases e : j = a
        · subst e; exact absurd y.2 h
        · exact Or.inr ⟨by omega, y.2⟩
      · refine ⟨fun y => ?_, fun y => ?_⟩
        · rcases y with y | y
          · exact Or.inl (Or.inl y)
          · by_cases e : j = a
            · exact Or.inr e
            · exact Or.inl (Or.inr ⟨by omega, y.2⟩)
        · rcases y with (y | y) | y
          · exact Or.inl y
          · exact Or.inr ⟨by omega, y.2⟩
          · subst y; exact Or.inr ⟨by omega, h⟩
      · refine ⟨fun y => ?_, fun y => ?_⟩
        · rcases y with y | y
          · exact Or.inl (Or.inl y)
          · by_cases e : j = a
            · exact Or.inr e
            · exact Or.inl (Or.inr ⟨by omega, y.2⟩)
        · rcases y with (y | y) | y
          · exact Or.inl y
          · exact Or.inr ⟨by omega, y.2⟩
          · subst y; exact Or.inr ⟨by omega, h⟩
    refine br_f (nI_ge ha (by omega)) ⟨va, ?_⟩
    rw [ca]
    refine br_c (fun z => fin 1 (fun _ => ?_)) (fun z => ⟨va, ?_⟩)
    · have hcut := (es_Tc (ht a)).mp z
      exact ⟨fun w => absurd w (by decide), fun w => absurd (Or.inl hcut) w⟩
    · have hcut : cut a = 0 := Classical.byContradiction (fun w => z ((es_Tc (ht a)).mpr w))
      rw [es_V0 hcut]
      refine br_c (fun w => fin 0 (fun hs => ?_)) (fun w => fin 1 (fun hs => ?_))
      · refine ⟨fun _ g => ?_, fun _ => rfl⟩
        rcases g with g | g
        · exact g hcut
        · rw [hs] at g; exact es_ltirr (es_ltle g w)
      · refine ⟨fun y => absurd y (by decide), fun y => absurd (Or.inr ?_) y⟩
        rw [hs]; exact es_nle w
theorem ex_scav {post : Int32 → SX → Prop} {e : Nat} (H : es_Log c f q cut rm str ty fr byi val ver onn call oi jn ec cl) (he : e ≤ f)
    (hp : ∀ r, es_Rm rm r (fun j => j < e ∧ es_go cut str val ver f j) → post (nI (es_rc r c - es_rc rm c)) (nI c, nI (es_rc r c), nI f, x_drafted, x_height, x_time, x_foundAt, str, es_T cut ty, es_V cut ver val, es_W cut val, fr, onn, oi, jn, r, ec, cl, x_draftType, x_draftValue, x_ops, x_arguments, x_programLength, x_states, x_noted, x_stack, x_metHeight, x_groupType, x_cursor, x_keptCursor, x_parked, x_rowCount, x_rowPosition, x_rowTimes, x_rowDue)) :
    ∃ n, wX_scavenge_12 post (nI e) (nI (es_rc rm c)) (nI c) (nI f) x_drafted x_height x_time x_foundAt n 0 (nI (es_rc rm c)) str (es_T cut ty) (es_V cut ver val) (es_W cut val) fr onn oi jn rm ec cl x_draftType x_draftValue x_ops x_arguments x_programLength x_states x_noted x_stack x_metHeight x_groupType x_cursor x_keptCursor x_parked x_rowCount x_rowPosition x_rowTimes x_rowDue := by
  have hc := H.1.1
  have hfc := H.1.2.1
  have hst := H.2.1
  have ht : ∀ i, ¬ ty i = -1 := fun i => by
    obtain ⟨t, ht, e⟩ := H.2.2.1 i
    rw [e]; exact es_nm1 (by omega)
  refine loop_0 (fun n i r => wX_scavenge_12 post (nI e) (nI (es_rc rm c)) (nI c) (nI f) x_drafted x_height x_time x_foundAt n (nI i) (nI (es_rc r c)) str (es_T cut ty) (es_V cut ver val) (es_W cut val) fr onn oi jn r ec cl x_draftType x_draftValue x_ops x_arguments x_programLength x_states x_noted x_stack x_metHeight x_groupType x_cursor x_keptCursor x_parked x_rowCount x_rowPosition x_rowTimes x_rowDue) (fun i r => es_Rm rm r (fun j => ∃ s, s < i ∧ j < e ∧ str j = nI s ∧ es_go cut str val ver f j)) 5 rm (es_Rm_0 (fun j => (H.2.2.2.2.1 j).1) (fun j ⟨s, h, _⟩ => absurd h (Nat.not_lt_zero _))) ?_ ?_
  · intro n r hr
    have h := hp r (es_Rm_i hr (fun j => ⟨fun ⟨s, _, h1, _, h2⟩ => ⟨h1, h2⟩, fun h => by
      obtain ⟨s, hs, e⟩ := hst j
      exact ⟨s, hs, h.1, e, h.2⟩⟩))
    refine br_t (by decide) ?_
    rw [pk_sub (es_Rm_rc hr c)]
    exact h
  · intro n i r hi hr ih
    refine br_f (nI_ge (b := 5) hi (by decide)) (ex_cutLevelBelow (by omega) ht ?_)
    refine ex_scav31 (by omega) hc ht hr (fun r' hr' => ih r' (es_Rm_i hr' (fun j => ⟨fun y => ?_, fun y => ?_⟩)))
    · rcases y with ⟨s, h1, h2⟩ | y
      · exact ⟨s, by omega, h2⟩
      · exact ⟨i, by omega, y⟩
    · obtain ⟨s, h1, h2⟩ := y
      by_cases e : s = i
      · subst e; exact Or.inr h2
      · exact Or.inl ⟨s, by omega, h2⟩
theorem ey_scav {post : Int32 → SY → Prop} {e : Nat} (H : es_Log c f q cut rm str ty fr byi val ver onn call oi jn ec cl) (he : e ≤ f)
    (hp : ∀ r, es_Rm rm r (fun j => j < e ∧ es_go cut str val ver f j) → post (nI (es_rc r c - es_rc rm c)) (nI c, nI f, nI q, y_drafted, y_top, y_time, cut, r, str, ty, fr, byi, val, ver, onn, call, y_draftType, y_draftValue, y_op, y_with, y_length, y_height, y_torn, y_stack, y_position, y_cells, y_noted, y_wanted, y_formed, y_cursor, y_parked, y_where, y_often, y_due, y_many, y_found)) :
    ∃ n, wY_scavenge_9 post (nI e) (nI c) (nI f) (nI q) y_drafted y_top y_time n 0 0 cut rm str ty fr byi val ver onn call y_draftType y_draftValue y_op y_with y_length y_height y_torn y_stack y_position y_cells y_noted y_wanted y_formed y_cursor y_parked y_where y_often y_due y_many y_found := by
  have hc := H.1.1
  have hfc := H.1.2.1
  refine loop_0 (fun n a (s : Int32 × (Nat → Int32)) => wY_scavenge_9 post (nI e) (nI c) (nI f) (nI q) y_drafted y_top y_time n s.1 (nI a) cut s.2 str ty fr byi val ver onn call y_draftType y_draftValue y_op y_with y_length y_height y_torn y_stack y_position y_cells y_noted y_wanted y_formed y_cursor y_parked y_where y_often y_due y_many y_found) (fun a s => s.1 = nI (es_rc s.2 c - es_rc rm c) ∧ es_Rm rm s.2 (fun j => j < a ∧ es_go cut str val ver f j)) e (0, rm) ⟨by rw [Nat.sub_self]; rfl, es_Rm_0 (fun j => (H.2.2.2.2.1 j).1) (fun j h => absurd h.1 (Nat.not_lt_zero _))⟩ ?_ ?_
  · intro n s hs
    obtain ⟨x, r⟩ := s
    obtain ⟨h1, h2⟩ := hs
    have h1 : x = nI (es_rc r c - es_rc rm c) := h1
    subst h1
    exact br_t (Int32.le_refl _) (hp r h2)
  · intro n a s ha hs ih
    obtain ⟨x, r⟩ := s
    obtain ⟨h1, hr⟩ := hs
    have h1 : x = nI (es_rc r c - es_rc rm c) := h1
    have hr : es_Rm rm r (fun j => j < a ∧ es_go cut str val ver f j) := hr
    subst h1
    have ca : (nI a).toNatClampNeg = a := nI_clamp (by omega)
    have va : vp_in (nI a) 2000 := vp_in_nI (by omega) (by decide)
    have hv : 0 ≤ ver a := by
      obtain ⟨m, hm, e⟩ := H.2.2.2.1 a
      rw [e]; exact nI_pos' (by omega)
    have skip : ¬ es_go cut str val ver f a → es_Rm rm r (fun j => j < a + 1 ∧ es_go cut str val ver f j) := fun h => es_Rm_i hr (fun j => ⟨fun y => ⟨by omega, y.2⟩, fun y => ⟨by
      have : j ≠ a := fun e => h (e ▸ y.2)
      omega, y.2⟩⟩)
    have eqv : es_go cut str val ver f a → ∀ j, (j < a + 1 ∧ es_go cut str val ver f j) ↔ ((j < a ∧ es_go cut str val ver f j) ∨ j = a) := fun h j => ⟨fun y => by
      by_cases e : j = a
      · exact Or.inr e
      · exact Or.inl ⟨by omega, y.2⟩, fun y => by
      rcases y with y | y
      · exact ⟨by omega, y.2⟩
      · subst y; exact ⟨by omega, h⟩⟩
    have take : es_go cut str val ver f a → r a = 0 → wY_scavenge_47 post ((wY_scavenge_9 post (nI e) (nI c) (nI f) (nI q) y_drafted y_top y_time n)) (nI e) (nI (es_rc r c - es_rc rm c)) (nI a) (nI c) (nI f) (nI q) y_drafted y_top y_time cut r str ty fr byi val ver onn call y_draftType y_draftValue y_op y_with y_length y_height y_torn y_stack y_position y_cells y_noted y_wanted y_formed y_cursor y_parked y_where y_often y_due y_many y_found := fun h w => by
      have hrc := es_Rm_rc hr c
      refine ⟨va, nm_r (e' := upd r a 1) (by rw [ca, es_nb1]) (nm_r (e' := nI (es_rc (upd r a 1) c - es_rc rm c)) ?_ (nm_r (nI_1 _) (ih (_, upd r a 1) ⟨rfl, es_Rm_a hr (eqv h)⟩)))⟩
      show nI (es_rc r c - es_rc rm c) + 1 = nI (es_rc (upd r a 1) c - es_rc rm c)
      rw [es_rc_u w (by decide) c (by omega), nI_1]
      have hrc' : es_rc rm c ≤ es_rc r c := hrc
      rw [show es_rc r c - es_rc rm c + 1 = es_rc r c + 1 - es_rc rm c by omega]
    refine br_f (nI_ge ha (by omega)) ⟨va, ?_⟩
    rw [ca]
    refine br_c (fun w => ⟨va, br_c (fun z => ?_) (fun z => take (Or.inl z) w)⟩) (fun w => ?_)
    · refine ey_hidden (by omega) (by omega) (fun y => br_f (by decide) (take (Or.inr ((es_hid_iff hv f).mp y)) w)) (fun y => br_t rfl (nm_r (nI_1 _) (ih (_, r) ⟨rfl, skip (fun g => ?_)⟩)))
      rcases g with g | g
      · exact g z
      · exact y ((es_hid_iff hv f).mpr g)
    · refine nm_r (nI_1 _) (ih (_, r) ⟨rfl, ?_⟩)
      by_cases g : es_go cut str val ver f a
      · exact es_Rm_g hr w (eqv g)
      · exact skip g
theorem i_vc_scavenge {k : Nat} {u : SX} {v : SY} (I : i_Rel k u v) (hk : k + 4 ≤ 2048) : wpX_scavenge (fun r u' => wpY_scavenge (fun r' v' => r' = r ∧ i_Rel (k + 4) u' v') v) u := by
  obtain ⟨x_records, x_removedCount, x_flushed, x_drafted, x_height, x_time, x_foundAt, x_recordStream, x_recordType, x_recordVersion, x_recordValue, x_originProjection, x_originPosition, x_originInstruction, x_joined, x_removed, x_eventCount, x_cutLevel, x_draftType, x_draftValue, x_ops, x_arguments, x_programLength, x_states, x_noted, x_stack, x_metHeight, x_groupType, x_cursor, x_keptCursor, x_parked, x_rowCount, x_rowPosition, x_rowTimes, x_rowDue⟩ := u
  obtain ⟨y_count, y_flushed, y_calls, y_drafted, y_top, y_time, y_isCut, y_removed, y_stream, y_type, y_from, y_by, y_value, y_version, y_on, y_call, y_draftType, y_draftValue, y_op, y_with, y_length, y_height, y_torn, y_stack, y_position, y_cells, y_noted, y_wanted, y_formed, y_cursor, y_parked, y_where, y_often, y_due, y_many, y_found⟩ := v
  obtain ⟨q, hq, c, f, d, L, hQ⟩ := I
  obtain ⟨e, he, hX, hY⟩ := em_low hQ
  obtain ⟨hL, hD, hP, hS, hG, hF⟩ := hQ
  obtain ⟨rfl, rfl, rfl, rfl, rfl, rfl, rfl, rfl, rfl, rfl, rfl, rfl, rfl, hl⟩ := hL
  unfold wpX_scavenge
  refine hX _ (ex_scav hl he (fun r hr => ?_))
  unfold wpY_scavenge
  refine hY _ (ey_scav hl he (fun r' hr' => ?_))
  have := es_Rm_u hr hr' (fun j => Iff.rfl)
  subst this
  refine ⟨rfl, q, by omega, c, f, d, L, ⟨rfl, rfl, rfl, rfl, rfl, rfl, rfl, rfl, rfl, rfl, rfl, rfl, rfl, es_Log_scav hl (fun i => ⟨(hr i).1, fun hi => ?_⟩) (es_Rm_rc hr c)⟩, hD, hP, hS, hG, hF⟩
  exact (hr i).2.mpr ⟨(hl.2.2.2.2.1 i).2 hi, fun h => by omega⟩
end
end
section
section
/-! crash: the pieces -/
variable {x_records x_removedCount x_flushed x_drafted x_height x_time x_foundAt : Int32} {x_recordStream x_recordType x_recordVersion x_recordValue x_originProjection x_originPosition x_originInstruction x_joined x_removed x_eventCount x_cutLevel x_draftType x_draftValue x_ops x_arguments x_programLength x_states x_noted x_stack x_metHeight x_groupType x_cursor x_keptCursor x_parked x_rowCount x_rowPosition x_rowTimes x_rowDue : Nat → Int32} {y_count y_flushed y_calls y_drafted y_top y_time : Int32} {y_isCut y_removed y_stream y_type y_from y_by y_value y_version y_on y_call y_draftType y_draftValue y_op y_with y_length y_height y_torn y_stack y_position y_cells y_noted y_wanted y_formed y_cursor y_parked y_where y_often y_due y_many y_found : Nat → Int32} {c f q : Nat} {cut rm str ty fr byi val ver onn call oi jn ec cl : Nat → Int32} {d : Nat} {L : Nat → Nat} {g nt nw nk u k : Nat}
theorem em_sp (H : es_Log c f q cut rm str ty fr byi val ver onn call oi jn ec cl) : ∀ m, f + m < c → ∃ e, f ≤ e ∧ e ≤ c ∧ (∀ post : Int32 → Prop, post (nI e) → wX_sparedEnd_25 post (nI c) x_removedCount (nI f) x_drafted x_height x_time x_foundAt str (es_T cut ty) (es_V cut ver val) (es_W cut val) fr onn oi jn rm ec cl x_draftType x_draftValue x_ops x_arguments x_programLength x_states x_noted x_stack x_metHeight x_groupType x_cursor x_keptCursor x_parked x_rowCount x_rowPosition x_rowTimes x_rowDue (m + 1) (nI (f + m))) ∧ (∀ post : Int32 → SY → Prop, wY_crash_72 post (nI e) (nI c) (nI f) (nI q) y_drafted y_top y_time cut rm str ty fr byi val ver onn call y_draftType y_draftValue y_op y_with y_length y_height y_torn y_stack y_position y_cells y_noted y_wanted y_formed y_cursor y_parked y_where y_often y_due y_many y_found → wY_crash_33 post (nI c) (nI f) (nI q) y_drafted y_top y_time cut rm str ty fr byi val ver onn call y_draftType y_draftValue y_op y_with y_length y_height y_torn y_stack y_position y_cells y_noted y_wanted y_formed y_cursor y_parked y_where y_often y_due y_many y_found (m + 1) (nI (f + m))) := by
  have hc := H.1.1
  intro m
  induction m with
  | zero =>
    intro hm
    exact ⟨f, Nat.le_refl f, by omega, fun post hp => br_t (Int32.le_refl _) hp, fun post hp => br_t (Int32.le_refl _) hp⟩
  | succ m ih =>
    intro hm
    have n1 : ¬ nI (f + (m + 1)) ≤ nI f := nI_ge (by omega) (by omega)
    have n2 : ¬ nI c ≤ nI (f + (m + 1)) := nI_ge (by omega) (by omega)
    have v1 : vp_in (nI (f + (m + 1))) 2000 := vp_in_nI (by omega) (by decide)
    have c1 : (nI (f + (m + 1))).toNatClampNeg = f + m + 1 := nI_clamp (n := f + (m + 1)) (by omega)
    have e1 : nI (f + (m + 1)) - 1 = nI (f + m) := nI_pred (f + m)
    have v2 : vp_in (nI (f + (m + 1)) - 1) 2000 := by rw [e1]; exact vp_in_nI (by omega) (by decide)
    have c2 : (nI (f + (m + 1)) - 1).toNatClampNeg = f + m := by rw [e1, nI_clamp (by omega)]
    have hj := H.2.2.2.2.2.2.2.2.2 (f + m) (by omega)
    by_cases z : jn (f + m + 1) = 0
    · refine ⟨f + (m + 1), by omega, by omega, fun post hp => br_f n1 ⟨v1, br_t ?_ hp⟩, fun post hp => br_f n1 (br_f n2 ⟨v2, v1, br_f ?_ hp⟩)⟩
      · rw [c1]; exact z
      · rw [c2, c1]; exact hj.mp z
    · obtain ⟨e, h1, h2, hX, hY⟩ := ih (by omega)
      refine ⟨e, h1, h2, fun post hp => br_f n1 ⟨v1, br_f ?_ (nm_r (pk_m1 (f + m)) (hX post hp))⟩, fun post hp => br_f n1 (br_f n2 ⟨v2, v1, br_t ?_ (nm_r (pk_m1 (f + m)) (hY post hp))⟩)⟩
      · rw [c1]; exact z
      · rw [c2, c1]
        exact Classical.byContradiction (fun w => z (hj.mpr w))
theorem em_spared (H : es_Log c f q cut rm str ty fr byi val ver onn call oi jn ec cl) {v1 : Int32} (hv : 0 ≤ v1) : ∃ e, f ≤ e ∧ e ≤ c ∧ (∀ post : Int32 → Prop, post (nI e) → wpX_sparedEnd post (nI c, x_removedCount, nI f, x_drafted, x_height, x_time, x_foundAt, str, es_T cut ty, es_V cut ver val, es_W cut val, fr, onn, oi, jn, rm, ec, cl, x_draftType, x_draftValue, x_ops, x_arguments, x_programLength, x_states, x_noted, x_stack, x_metHeight, x_groupType, x_cursor, x_keptCursor, x_parked, x_rowCount, x_rowPosition, x_rowTimes, x_rowDue) v1) ∧ (∀ post : Int32 → SY → Prop, wY_crash_72 post (nI e) (nI c) (nI f) (nI q) y_drafted y_top y_time cut rm str ty fr byi val ver onn call y_draftType y_draftValue y_op y_with y_length y_height y_torn y_stack y_position y_cells y_noted y_wanted y_formed y_cursor y_parked y_where y_often y_due y_many y_found → wpY_crash post (nI c, nI f, nI q, y_drafted, y_top, y_time, cut, rm, str, ty, fr, byi, val, ver, onn, call, y_draftType, y_draftValue, y_op, y_with, y_length, y_height, y_torn, y_stack, y_position, y_cells, y_noted, y_wanted, y_formed, y_cursor, y_parked, y_where, y_often, y_due, y_many, y_found) v1) := by
  have hc := H.1.1
  have hfc := H.1.2.1
  obtain ⟨j, hj, rfl⟩ := nI_of (x := v1) (fun w => es_ltirr (es_lelt hv w))
  have es : nI c - nI f = nI (c - f) := pk_sub hfc
  by_cases z : j < c - f
  · obtain ⟨e, h1, h2, hX, hY⟩ := em_sp H j (by omega)
    refine ⟨e, h1, h2, fun post hp => br_t ?_ (nm_r (nI_add f j) ⟨_, hX post hp⟩), fun post hp => br_t hv (br_f ?_ (nm_r (nI_add f j) ⟨_, hY post hp⟩))⟩
    · rw [es]; exact nI_lt z (by omega)
    · rw [es]; exact nI_ge z (by omega)
  · refine ⟨c, hfc, Nat.le_refl c, fun post hp => br_f ?_ hp, fun post hp => br_t hv (br_t ?_ ⟨1, ?_⟩)⟩
    · rw [es]; exact nI_nlt (by omega) hj
    · rw [es]; exact nI_le (by omega) hj
    · by_cases w : nI c ≤ nI f
      · exact br_t w hp
      · exact br_f w (br_t (Int32.le_refl _) hp)
theorem ex_lose {pst : SX → Prop} {e : Nat} (H : es_Log c f q cut rm str ty fr byi val ver onn call oi jn ec cl) (h1 : f ≤ e) (h2 : e ≤ c)
    (hp : ∀ ec' cl', (∀ s, s < 5 → ec' s = nI (es_ev cut str (nI s) e)) → (∀ s, s < 5 → cl' s = es_cm cut str val (nI s) e) → pst (nI e, x_removedCount, nI f, x_drafted, x_height, x_time, x_foundAt, str, es_T cut ty, es_V cut ver val, es_W cut val, fr, onn, oi, jn, rm, ec', cl', x_draftType, x_draftValue, x_ops, x_arguments, x_programLength, x_states, x_noted, x_stack, x_metHeight, x_groupType, x_cursor, x_keptCursor, x_parked, x_rowCount, x_rowPosition, x_rowTimes, x_rowDue)) : wpX_loseLast pst (nI c, x_removedCount, nI f, x_drafted, x_height, x_time, x_foundAt, str, es_T cut ty, es_V cut ver val, es_W cut val, fr, onn, oi, jn, rm, ec, cl, x_draftType, x_draftValue, x_ops, x_arguments, x_programLength, x_states, x_noted, x_stack, x_metHeight, x_groupType, x_cursor, x_keptCursor, x_parked, x_rowCount, x_rowPosition, x_rowTimes, x_rowDue) (nI (c - e)) := by
  have hc := H.1.1
  have ht : ∀ i, ¬ ty i = -1 := fun i => by
    obtain ⟨t, ht, e⟩ := H.2.2.1 i
    rw [e]; exact es_nm1 (by omega)
  have key : ∃ n, wX_loseLast_2 pst (nI (c - e)) x_removedCount (nI f) x_drafted x_height x_time x_foundAt n (nI 0) (nI (c - 0)) str (es_T cut ty) (es_V cut ver val) (es_W cut val) fr onn oi jn rm ec cl x_draftType x_draftValue x_ops x_arguments x_programLength x_states x_noted x_stack x_metHeight x_groupType x_cursor x_keptCursor x_parked x_rowCount x_rowPosition x_rowTimes x_rowDue := by
    refine pk_loop (fun n i s => wX_loseLast_2 pst (nI (c - e)) x_removedCount (nI f) x_drafted x_height x_time x_foundAt n (nI i) (nI (c - i)) str (es_T cut ty) (es_V cut ver val) (es_W cut val) fr onn oi jn rm s cl x_draftType x_draftValue x_ops x_arguments x_programLength x_states x_noted x_stack x_metHeight x_groupType x_cursor x_keptCursor x_parked x_rowCount x_rowPosition x_rowTimes x_rowDue) (fun i s => ∀ s', s' < 5 → s s' = nI (es_ev cut str (nI s') (c - i))) (c - e) 0 ec (by omega) (fun s hs => H.2.2.2.2.2.1 s hs) ?_ ?_
    · intro n s hs
      rw [show c - (c - e) = e by omega] at hs ⊢
      refine br_t (Int32.le_refl _) ?_
      refine loop_0 (fun n i s2 => wX_loseLast_56 pst (nI e) x_removedCount (nI f) x_drafted x_height x_time x_foundAt n (nI i) str (es_T cut ty) (es_V cut ver val) (es_W cut val) fr onn oi jn rm s s2 x_draftType x_draftValue x_ops x_arguments x_programLength x_states x_noted x_stack x_metHeight x_groupType x_cursor x_keptCursor x_parked x_rowCount x_rowPosition x_rowTimes x_rowDue) (fun i s2 => ∀ s', s' < i → s2 s' = es_cm cut str val (nI s') e) 5 cl (fun s h => absurd h (Nat.not_lt_zero _)) ?_ ?_
      · intro n s2 hs2
        exact br_t (by decide) (hp s s2 hs hs2)
      · intro n i s2 hi hs2 ih
        refine br_f (nI_ge (b := 5) hi (by decide)) (ex_cutLevelBelow (by omega) ht ⟨vp_in_nI hi (by decide), nm_r (e' := upd s2 i (es_cm cut str val (nI i) e)) (by rw [nI_clamp (by omega)]) (nm_r (nI_1 _) (ih _ (fun s' hs' => ?_)))⟩)
        by_cases z : s' = i
        · rw [z, pk_us]
        · rw [pk_un z]; exact hs2 s' (by omega)
    · intro n i s hi hs ih
      have er : nI (c - i) - 1 = nI (c - (i + 1)) := by rw [es_s1 (by omega)]; congr 1
      have hr : c - i = c - (i + 1) + 1 := by omega
      have cr : (nI (c - (i + 1))).toNatClampNeg = c - (i + 1) := nI_clamp (by omega)
      have vr : vp_in (nI (c - (i + 1))) 2000 := vp_in_nI (by omega) (by decide)
      rw [hr] at hs
      generalize c - (i + 1) = r at *
      refine br_f (nI_ge hi (by omega)) (nm_r er ⟨vr, ?_⟩)
      rw [cr]
      refine br_c (fun z => nm_r (nI_1 _) (ih s (fun s' hs' => ?_))) (fun z => ?_)
      · rw [hs s' hs', es_ev_s, if_neg (fun w => (es_Tc (ht r)).mp z w.1)]
      · have hcut : cut r = 0 := Classical.byContradiction (fun w => z ((es_Tc (ht r)).mpr w))
        obtain ⟨t, ht5, et⟩ := H.2.1 r
        have vt : vp_in (str r) 5 := by rw [et]; exact vp_in_nI ht5 (by decide)
        have ct : (str r).toNatClampNeg = t := by rw [et, nI_clamp (by omega)]
        rw [ct]
        refine ⟨vr, vt, vt, nm_e (nm_r (nI_1 _) (ih _ (fun s' hs' => ?_)))⟩
        have := hs s' hs'
        rw [es_ev_s] at this
        by_cases w : s' = t
        · subst w
          rw [pk_us, this, if_pos ⟨hcut, et⟩]
          exact nI_pred _
        · rw [pk_un w, this, if_neg (fun y => w (es_inj (y.2.symm.trans et) (by omega) (by omega)))]
  exact key
/-! a group goes back to what it kept -/
theorem ex_restore {pst : SX → Prop} (hg : g < 2) (hk : x_rowCount (3 * g + 2) = nI nk) (h6 : nk ≤ 6)
    (hp : pst (x_records, x_removedCount, x_flushed, x_drafted, x_height, x_time, x_foundAt, x_recordStream, x_recordType, x_recordVersion, x_recordValue, x_originProjection, x_originPosition, x_originInstruction, x_joined, x_removed, x_eventCount, x_cutLevel, x_draftType, x_draftValue, x_ops, x_arguments, x_programLength, x_states, x_noted, x_stack, x_metHeight, x_groupType, upd x_cursor g (x_keptCursor g), x_keptCursor, x_parked, upd (upd x_rowCount (3 * g) 0) (3 * g + 1) (nI nk), es_cpy x_rowPosition (18 * g + 6) (18 * g + 12) nk, es_cpy x_rowTimes (18 * g + 6) (18 * g + 12) nk, x_rowDue)) : wpX_restoreGroup pst (x_records, x_removedCount, x_flushed, x_drafted, x_height, x_time, x_foundAt, x_recordStream, x_recordType, x_recordVersion, x_recordValue, x_originProjection, x_originPosition, x_originInstruction, x_joined, x_removed, x_eventCount, x_cutLevel, x_draftType, x_draftValue, x_ops, x_arguments, x_programLength, x_states, x_noted, x_stack, x_metHeight, x_groupType, x_cursor, x_keptCursor, x_parked, x_rowCount, x_rowPosition, x_rowTimes, x_rowDue) (nI g) := by
  have cg : (nI g).toNatClampNeg = g := nI_clamp (by omega)
  have vg : vp_in (nI g) 2 := vp_in_nI hg (by decide)
  have c3 : (nI g * 3 + 0).toNatClampNeg = 3 * g := by rw [es_g3, nI_clamp (by omega)]
  have v3 : vp_in (nI g * 3 + 0) 6 := by rw [es_g3]; exact vp_in_nI (by omega) (by decide)
  have c31 : (nI (3 * g + 1)).toNatClampNeg = 3 * g + 1 := nI_clamp (by omega)
  have v31 : vp_in (nI (3 * g + 1)) 6 := vp_in_nI (by omega) (by decide)
  have c32 : (nI (3 * g + 2)).toNatClampNeg = 3 * g + 2 := nI_clamp (by omega)
  have v32 : vp_in (nI (3 * g + 2)) 6 := vp_in_nI (by omega) (by decide)
  refine nm_r (es_g31 g) (nm_r (es_g32 g) ⟨vg, vg, nm_r (e' := upd x_cursor g (x_keptCursor g)) (by rw [cg]) ⟨v3, nm_r (e' := upd x_rowCount (3 * g) 0) (by rw [c3]) ⟨v31, nm_r (e' := upd (upd x_rowCount (3 * g) 0) (3 * g + 1) (nI 0)) (by rw [c31]; rfl) ?_⟩⟩⟩)
  refine loop_0 (fun n i (s : (Nat → Int32) × (Nat → Int32) × (Nat → Int32)) => wX_restoreGroup_45 pst (nI (3 * g + 1)) (nI (3 * g + 2)) n (nI i) x_records x_removedCount x_flushed x_drafted x_height x_time x_foundAt x_recordStream x_recordType x_recordVersion x_recordValue x_originProjection x_originPosition x_originInstruction x_joined x_removed x_eventCount x_cutLevel x_draftType x_draftValue x_ops x_arguments x_programLength x_states x_noted x_stack x_metHeight x_groupType (upd x_cursor g (x_keptCursor g)) x_keptCursor x_parked s.1 s.2.1 s.2.2 x_rowDue)
    (fun i s => s = (upd (upd x_rowCount (3 * g) 0) (3 * g + 1) (nI i), es_cpy x_rowPosition (18 * g + 6) (18 * g + 12) i, es_cpy x_rowTimes (18 * g + 6) (18 * g + 12) i)) nk (upd (upd x_rowCount (3 * g) 0) (3 * g + 1) (nI 0), x_rowPosition, x_rowTimes) (by rw [es_cpy_0, es_cpy_0]) ?_ ?_
  · intro n s hs
    subst hs
    refine ⟨v32, br_t ?_ hp⟩
    rw [c32]; dsimp only; rw [pk_un (by omega), pk_un (by omega), hk]; exact Int32.le_refl _
  · intro n i s hi hs ih
    subst hs
    refine ⟨v32, br_f ?_ ?_⟩
    · rw [c32]; dsimp only; rw [pk_un (by omega), pk_un (by omega), hk]; exact nI_ge hi (by omega)
    · have c1 : (nI (3 * g + 2) * 6 + nI i).toNatClampNeg = 18 * g + 12 + i := by rw [es_6, nI_add, nI_clamp (by omega)]; omega
      have v1 : vp_in (nI (3 * g + 2) * 6 + nI i) 36 := by rw [es_6, nI_add]; exact vp_in_nI (by omega) (by decide)
      rw [c1]
      refine ⟨v1, v1, ex_insert (b := 18 * g + 6) (w := i) (by omega) (by omega) pk_us (Nat.le_refl i) (by omega) (nm_r (nI_1 _) ?_)⟩
      rw [es_ins_0 (Nat.le_refl _), es_ins_0 (Nat.le_refl _)]
      have h := ih (upd (upd x_rowCount (3 * g) 0) (3 * g + 1) (nI (i + 1)), es_cpy x_rowPosition (18 * g + 6) (18 * g + 12) (i + 1), es_cpy x_rowTimes (18 * g + 6) (18 * g + 12) (i + 1)) rfl
      rw [← es_cpy_s (by omega), ← es_cpy_s (by omega)] at h
      rw [es_uu]
      exact h
theorem es_Grp_rs {cu kc rn rp rt rd cv mn wh oft du : Nat → Int32} (H : es_Grp c f g nt nw nk u k cu kc rn rp rt rd cv mn wh oft du) (hg : g < 2) (hfc : f ≤ c) :
    es_Grp c f g 0 nk nk k k (upd cu g (kc g)) kc (upd (upd rn (3 * g) 0) (3 * g + 1) (nI nk)) (es_cpy rp (18 * g + 6) (18 * g + 12) nk) (es_cpy rt (18 * g + 6) (18 * g + 12) nk) rd
      (upd cv g (cv (2 + g))) (upd (upd mn g 0) (2 + g) (nI nk)) (es_cpy wh (16 + 8 * g) (32 + 8 * g) 8) (es_cpy oft (16 + 8 * g) (32 + 8 * g) 8) du := by
  obtain ⟨a0, a1, a2, a3, a4, a5, a6, a7, a8, a9, a10⟩ := H
  refine ⟨⟨by omega, a0.2.1, by omega, a0.2.2.2⟩, ⟨pk_us.trans a1.2.2.1, pk_us.trans a1.2.2.2, a1.2.2.1, ?_⟩, ⟨?_, ?_, pk_us, pk_us, ?_, ?_⟩, fun i h => absurd h (Nat.not_lt_zero _), fun i h => absurd h (Nat.not_lt_zero _), fun i hi => ?_, fun i hi => ?_, fun i j h => absurd h (Nat.not_lt_zero _), fun i j hi hj e => ?_, fun i j h => absurd h (Nat.not_lt_zero _), fun i j hi hj => ?_⟩
  · rw [pk_un (by omega)]; exact a1.2.2.2
  · rw [pk_un (by omega), pk_us]; rfl
  · rw [pk_un (by omega), pk_us]; rfl
  · rw [pk_un (by omega), pk_un (by omega)]; exact a2.2.2.2.2.1
  · rw [pk_un (by omega), pk_un (by omega)]; exact a2.2.2.2.2.2
  · rw [es_cpy_i hi, es_cpy_i hi, es_cpy_i (by omega), es_cpy_i (by omega)]
    exact a6 i hi
  · rw [es_cpy_o (by omega), es_cpy_o (by omega), es_cpy_o (by omega), es_cpy_o (by omega)]
    exact a6 i hi
  · rw [es_cpy_i hi, es_cpy_i hj] at e
    rcases Nat.lt_trichotomy i j with h | h | h
    · exact absurd e (es_ltne (a10 i j h hj))
    · exact h
    · exact absurd e.symm (es_ltne (a10 j i h hi))
  · rw [es_cpy_o (by omega), es_cpy_o (by omega)]
    exact a10 i j hi hj
theorem ey_cr1 {post : Int32 → SY → Prop} {x3 : Int32} {n : Nat} (hg : g < 2) (hk : y_many (4 + g) = nI nk) (h6 : nk ≤ 6)
    (hp : wY_crash_137 post x3 y_count y_flushed y_calls y_drafted y_top y_time n (nI (g + 1)) y_isCut y_removed y_stream y_type y_from y_by y_value y_version y_on y_call y_draftType y_draftValue y_op y_with y_length y_height y_torn y_stack y_position y_cells y_noted y_wanted y_formed (upd y_cursor g (y_cursor (2 + g))) y_parked (es_cpy y_where (16 + 8 * g) (32 + 8 * g) 8) (es_cpy y_often (16 + 8 * g) (32 + 8 * g) 8) y_due (upd (upd y_many g 0) (2 + g) (nI nk)) y_found) : wY_crash_137 post x3 y_count y_flushed y_calls y_drafted y_top y_time (n + 1) (nI g) y_isCut y_removed y_stream y_type y_from y_by y_value y_version y_on y_call y_draftType y_draftValue y_op y_with y_length y_height y_torn y_stack y_position y_cells y_noted y_wanted y_formed y_cursor y_parked y_where y_often y_due y_many y_found := by
  have cg : (nI g).toNatClampNeg = g := nI_clamp (by omega)
  have c2 : (2 + nI g).toNatClampNeg = 2 + g := by rw [es_2g, nI_clamp (by omega)]
  have c4 : (4 + nI g).toNatClampNeg = 4 + g := by rw [es_4g, nI_clamp (by omega)]
  have v24 : vp_in (2 + nI g) 4 := by rw [es_2g]; exact vp_in_nI (by omega) (by decide)
  have v26 : vp_in (2 + nI g) 6 := by rw [es_2g]; exact vp_in_nI (by omega) (by decide)
  have v46 : vp_in (4 + nI g) 6 := by rw [es_4g]; exact vp_in_nI (by omega) (by decide)
  refine br_f (nI_ge (b := 2) hg (by decide)) ⟨v24, vp_in_nI (by omega) (by decide), nm_r (e' := upd y_cursor g (y_cursor (2 + g))) (by rw [cg, c2]) ⟨vp_in_nI (by omega) (by decide), nm_r (e' := upd y_many g 0) (by rw [cg, es_nb_0]) ⟨v46, v26, nm_r (e' := upd (upd y_many g 0) (2 + g) (nI nk)) ?_ ?_⟩⟩⟩
  · rw [c2, c4, pk_un (by omega), hk, (es_nar nk (by omega)).1]
  · have e16 : ∀ i, 16 + 8 * nI g + nI i = nI (16 + 8 * g + i) := fun i => by rw [es_8, show (16 : Int32) = nI 16 from rfl, nI_add, nI_add]
    have e32 : ∀ i, 32 + 8 * nI g + nI i = nI (32 + 8 * g + i) := fun i => by rw [es_8, show (32 : Int32) = nI 32 from rfl, nI_add, nI_add]
    refine loop_0 (fun m i (s : (Nat → Int32) × (Nat → Int32)) => wY_crash_188 post ((wY_crash_137 post x3 y_count y_flushed y_calls y_drafted y_top y_time n)) x3 (nI g) y_count y_flushed y_calls y_drafted y_top y_time m (nI i) y_isCut y_removed y_stream y_type y_from y_by y_value y_version y_on y_call y_draftType y_draftValue y_op y_with y_length y_height y_torn y_stack y_position y_cells y_noted y_wanted y_formed (upd y_cursor g (y_cursor (2 + g))) y_parked s.1 s.2 y_due (upd (upd y_many g 0) (2 + g) (nI nk)) y_found)
      (fun i s => s = (es_cpy y_where (16 + 8 * g) (32 + 8 * g) i, es_cpy y_often (16 + 8 * g) (32 + 8 * g) i)) 8 (y_where, y_often) (by rw [es_cpy_0, es_cpy_0]) ?_ ?_
    · intro m s hs
      subst hs
      exact br_t (by decide) (nm_r (nI_1 _) hp)
    · intro m i s hi hs ih
      subst hs
      refine br_f (nI_ge (b := 8) hi (by decide)) ?_
      rw [e16, e32, nI_clamp (by omega), nI_clamp (by omega)]
      exact ⟨vp_in_nI (by omega) (by decide), vp_in_nI (by omega) (by decide), nm_r (es_cpy_s (by omega)) ⟨vp_in_nI (by omega) (by decide), vp_in_nI (by omega) (by decide), nm_r (es_cpy_s (by omega)) (nm_r (nI_1 _) (ih (_, _) rfl))⟩⟩
theorem ey_cr274 {post : Int32 → SY → Prop} {x3 : Int32} (hp : ∀ fd, (∀ w, w < 6 → fd w = 0) → post x3 (y_count, y_flushed, y_calls, y_drafted, y_top, y_time, y_isCut, y_removed, y_stream, y_type, y_from, y_by, y_value, y_version, y_on, y_call, y_draftType, y_draftValue, y_op, y_with, y_length, y_height, y_torn, y_stack, y_position, y_cells, y_noted, y_wanted, y_formed, y_cursor, y_parked, y_where, y_often, y_due, y_many, fd)) : ∃ n, wY_crash_274 post x3 y_count y_flushed y_calls y_drafted y_top y_time n 0 y_isCut y_removed y_stream y_type y_from y_by y_value y_version y_on y_call y_draftType y_draftValue y_op y_with y_length y_height y_torn y_stack y_position y_cells y_noted y_wanted y_formed y_cursor y_parked y_where y_often y_due y_many y_found := by
  refine loop_0 (fun n i s => wY_crash_274 post x3 y_count y_flushed y_calls y_drafted y_top y_time n (nI i) y_isCut y_removed y_stream y_type y_from y_by y_value y_version y_on y_call y_draftType y_draftValue y_op y_with y_length y_height y_torn y_stack y_position y_cells y_noted y_wanted y_formed y_cursor y_parked y_where y_often y_due y_many s) (fun i s => ∀ w, w < i → s w = 0) 6 y_found (fun w h => absurd h (Nat.not_lt_zero _)) ?_ ?_
  · intro n s hs
    exact br_t (by decide) (hp s hs)
  · intro n i s hi hs ih
    refine br_f (nI_ge (b := 6) hi (by decide)) ⟨vp_in_nI hi (by decide), nm_r (e' := upd s i 0) (by rw [nI_clamp (by omega)]) (nm_r (nI_1 _) (ih _ (fun w hw => ?_)))⟩
    by_cases e : w = i
    · rw [e, pk_us]
    · rw [pk_un e]; exact hs w (by omega)
end
end
section
section
variable {x_records x_removedCount x_flushed x_drafted x_height x_time x_foundAt : Int32} {x_recordStream x_recordType x_recordVersion x_recordValue x_originProjection x_originPosition x_originInstruction x_joined x_removed x_eventCount x_cutLevel x_draftType x_draftValue x_ops x_arguments x_programLength x_states x_noted x_stack x_metHeight x_groupType x_cursor x_keptCursor x_parked x_rowCount x_rowPosition x_rowTimes x_rowDue : Nat → Int32} {y_count y_flushed y_calls y_drafted y_top y_time : Int32} {y_isCut y_removed y_stream y_type y_from y_by y_value y_version y_on y_call y_draftType y_draftValue y_op y_with y_length y_height y_torn y_stack y_position y_cells y_noted y_wanted y_formed y_cursor y_parked y_where y_often y_due y_many y_found : Nat → Int32} {c f q : Nat} {cut rm str ty fr byi val ver onn call oi jn ec cl : Nat → Int32} {d : Nat} {L : Nat → Nat}
/-- KEPT states become the states again -/
def es_CX (st0 : Nat → Int32) (m : Nat) (st xn : Nat → Int32) : Prop :=
  (∀ p, p < m → xn p = 0 ∧ ∀ k, k < 11 → st (11 * p + k) = st0 (11 * (3 + p) + k)) ∧ (∀ j, 11 * m ≤ j → st j = st0 j)
def es_CY (po0 ce0 : Nat → Int32) (m : Nat) (po ce yn : Nat → Int32) : Prop :=
  (∀ p, p < m → yn p = 0 ∧ po p = po0 (3 + p) ∧ ∀ k, k < 10 → ce (10 * p + k) = ce0 (10 * (3 + p) + k)) ∧ (∀ r, m ≤ r → po r = po0 r) ∧ (∀ j, 10 * m ≤ j → ce j = ce0 j)
theorem ex_cr44 {post : Int32 → SX → Prop} {x2 : Int32} (hp : ∀ st xn, es_CX x_states 3 st xn → ∃ n, wX_crash_71 post x2 n 0 x_records x_removedCount x_flushed x_drafted x_height x_time x_foundAt x_recordStream x_recordType x_recordVersion x_recordValue x_originProjection x_originPosition x_originInstruction x_joined x_removed x_eventCount x_cutLevel x_draftType x_draftValue x_ops x_arguments x_programLength st xn x_stack x_metHeight x_groupType x_cursor x_keptCursor x_parked x_rowCount x_rowPosition x_rowTimes x_rowDue) : ∃ n, wX_crash_44 post x2 n 0 x_records x_removedCount x_flushed x_drafted x_height x_time x_foundAt x_recordStream x_recordType x_recordVersion x_recordValue x_originProjection x_originPosition x_originInstruction x_joined x_removed x_eventCount x_cutLevel x_draftType x_draftValue x_ops x_arguments x_programLength x_states x_noted x_stack x_metHeight x_groupType x_cursor x_keptCursor x_parked x_rowCount x_rowPosition x_rowTimes x_rowDue := by
  refine loop_0 (fun n i (s : (Nat → Int32) × (Nat → Int32)) => wX_crash_44 post x2 n (nI i) x_records x_removedCount x_flushed x_drafted x_height x_time x_foundAt x_recordStream x_recordType x_recordVersion x_recordValue x_originProjection x_originPosition x_originInstruction x_joined x_removed x_eventCount x_cutLevel x_draftType x_draftValue x_ops x_arguments x_programLength s.1 s.2 x_stack x_metHeight x_groupType x_cursor x_keptCursor x_parked x_rowCount x_rowPosition x_rowTimes x_rowDue) (fun i s => es_CX x_states i s.1 s.2) 3 (x_states, x_noted) ⟨fun p h => absurd h (Nat.not_lt_zero _), fun j _ => rfl⟩ ?_ ?_
  · intro n s hs
    exact br_t (by decide) (hp _ _ hs)
  · intro n i s hi hs ih
    obtain ⟨st, xn⟩ := s
    obtain ⟨h1, h2⟩ := hs
    refine br_f (nI_ge (b := 3) hi (by decide)) ⟨vp_in_nI hi (by decide), nm_r (e' := upd xn i 0) (by rw [nI_clamp (by omega), es_nb0]) ?_⟩
    refine ex_copyState (m1 := 1) (m2 := 0) (r1 := 3 + i) (r2 := i) (by omega) (by omega) hi (by omega) (by omega) (by omega) (nm_r (nI_1 _) (ih (es_cpy st (11 * i) (11 * (3 + i)) 11, upd xn i 0) ⟨fun p hp => ?_, fun j hj => ?_⟩))
    · by_cases e : p = i
      · subst e
        refine ⟨pk_us, fun k hk => ?_⟩
        show es_cpy st (11 * p) (11 * (3 + p)) 11 (11 * p + k) = _
        rw [es_cpy_i hk]
        exact h2 _ (by omega)
      · obtain ⟨a, b⟩ := h1 p (by omega)
        refine ⟨(pk_un e).trans a, fun k hk => ?_⟩
        show es_cpy st (11 * i) (11 * (3 + i)) 11 (11 * p + k) = _
        rw [es_cpy_o (by omega)]
        exact b k hk
    · show es_cpy st (11 * i) (11 * (3 + i)) 11 j = _
      rw [es_cpy_o (by omega)]
      exact h2 j (by omega)
theorem ey_cr104 {post : Int32 → SY → Prop} {x3 : Int32} (hp : ∀ po ce yn, es_CY y_position y_cells 3 po ce yn → ∃ n, wY_crash_137 post x3 y_count y_flushed y_calls y_drafted y_top y_time n 0 y_isCut y_removed y_stream y_type y_from y_by y_value y_version y_on y_call y_draftType y_draftValue y_op y_with y_length y_height y_torn y_stack po ce yn y_wanted y_formed y_cursor y_parked y_where y_often y_due y_many y_found) : ∃ n, wY_crash_104 post x3 n 0 y_count y_flushed y_calls y_drafted y_top y_time y_isCut y_removed y_stream y_type y_from y_by y_value y_version y_on y_call y_draftType y_draftValue y_op y_with y_length y_height y_torn y_stack y_position y_cells y_noted y_wanted y_formed y_cursor y_parked y_where y_often y_due y_many y_found := by
  refine loop_0 (fun n i (s : (Nat → Int32) × (Nat → Int32) × (Nat → Int32)) => wY_crash_104 post x3 n (nI i) y_count y_flushed y_calls y_drafted y_top y_time y_isCut y_removed y_stream y_type y_from y_by y_value y_version y_on y_call y_draftType y_draftValue y_op y_with y_length y_height y_torn y_stack s.1 s.2.1 s.2.2 y_wanted y_formed y_cursor y_parked y_where y_often y_due y_many y_found) (fun i s => es_CY y_position y_cells i s.1 s.2.1 s.2.2) 3 (y_position, y_cells, y_noted) ⟨fun p h => absurd h (Nat.not_lt_zero _), fun j _ => rfl, fun j _ => rfl⟩ ?_ ?_
  · intro n s hs
    exact br_t (by decide) (hp _ _ _ hs)
  · intro n i s hi hs ih
    obtain ⟨po, ce, yn⟩ := s
    obtain ⟨h1, h2, h3⟩ := hs
    have e3 : 3 + nI i = nI (3 + i) := nI_add 3 i
    refine br_f (nI_ge (b := 3) hi (by decide)) ⟨vp_in_nI hi (by decide), nm_r (e' := upd yn i 0) (by rw [nI_clamp (by omega), es_nb0]) ?_⟩
    rw [e3]
    refine ey_copyState (by omega) (by omega) (by omega) (nm_r (nI_1 _) (ih (upd po i (po (3 + i)), es_cpy ce (10 * i) (10 * (3 + i)) 10, upd yn i 0) ⟨fun p hp => ?_, fun r hr => ?_, fun j hj => ?_⟩))
    · by_cases e : p = i
      · subst e
        refine ⟨pk_us, pk_us.trans (h2 _ (by omega)), fun k hk => ?_⟩
        show es_cpy ce (10 * p) (10 * (3 + p)) 10 (10 * p + k) = _
        rw [es_cpy_i hk]
        exact h3 _ (by omega)
      · obtain ⟨a, b, b2⟩ := h1 p (by omega)
        refine ⟨(pk_un e).trans a, (pk_un e).trans b, fun k hk => ?_⟩
        show es_cpy ce (10 * i) (10 * (3 + i)) 10 (10 * p + k) = _
        rw [es_cpy_o (by omega)]
        exact b2 k hk
    · exact (pk_un (by omega)).trans (h2 r (by omega))
    · show es_cpy ce (10 * i) (10 * (3 + i)) 10 j = _
      rw [es_cpy_o (by omega)]
      exact h3 j (by omega)
theorem es_St_cr {st0 xn0 po0 ce0 yn0 st xn po ce yn : Nat → Int32} {e : Nat} {L' : Nat → Nat} (H : es_St c f L st0 xn0 po0 ce0 yn0) (he : f ≤ e) (hL : ∀ p, p < 3 → L' p = L p) (hx : es_CX st0 3 st xn) (hy : es_CY po0 ce0 3 po ce yn) : es_St e e L' st xn po ce yn := by
  intro p hp hl
  rw [hL p hp] at hl
  obtain ⟨_, ⟨⟨a, ha, e1, e2⟩, h⟩, _, _⟩ := H p hp hl
  obtain ⟨x1, x2⟩ := hx
  obtain ⟨y1, y2, y3⟩ := hy
  obtain ⟨b1, b2⟩ := x1 p hp
  obtain ⟨c1, c2, c3⟩ := y1 p hp
  refine ⟨⟨⟨a, by omega, (b2 10 (by omega)).trans e1, c2.trans e2⟩, fun k hk => ?_⟩, ⟨⟨a, by omega, (x2 _ (by omega)).trans e1, (y2 _ (by omega)).trans e2⟩, fun k hk => ?_⟩, ?_, fun z => absurd b1 z⟩
  · rw [b2 k (by omega), c3 k hk]; exact h k hk
  · rw [x2 _ (by omega), y3 _ (by omega)]; exact h k hk
  · rw [b1, c1]
end
end
section
section
variable {x_records x_removedCount x_flushed x_drafted x_height x_time x_foundAt : Int32} {x_recordStream x_recordType x_recordVersion x_recordValue x_originProjection x_originPosition x_originInstruction x_joined x_removed x_eventCount x_cutLevel x_draftType x_draftValue x_ops x_arguments x_programLength x_states x_noted x_stack x_metHeight x_groupType x_cursor x_keptCursor x_parked x_rowCount x_rowPosition x_rowTimes x_rowDue : Nat → Int32} {y_count y_flushed y_calls y_drafted y_top y_time : Int32} {y_isCut y_removed y_stream y_type y_from y_by y_value y_version y_on y_call y_draftType y_draftValue y_op y_with y_length y_height y_torn y_stack y_position y_cells y_noted y_wanted y_formed y_cursor y_parked y_where y_often y_due y_many y_found : Nat → Int32} {c f q : Nat} {cut rm str ty fr byi val ver onn call oi jn ec cl : Nat → Int32} {d : Nat} {L : Nat → Nat} {g nt nw nk u k : Nat}
theorem es_Grp_ro {cu kc rn rp rt rd cv mn wh oft du : Nat → Int32} {e mk : Nat} (H : es_Grp c f e nt nw nk u k cu kc rn rp rt rd cv mn wh oft du) (hg : g < 2) (he : e < 2) (hne : e ≠ g) (h6 : mk ≤ 6) :
    es_Grp c f e nt nw nk u k (upd cu g (kc g)) kc (upd (upd rn (3 * g) 0) (3 * g + 1) (nI mk)) (es_cpy rp (18 * g + 6) (18 * g + 12) mk) (es_cpy rt (18 * g + 6) (18 * g + 12) mk) rd
      (upd cv g (cv (2 + g))) (upd (upd mn g 0) (2 + g) (nI mk)) (es_cpy wh (16 + 8 * g) (32 + 8 * g) 8) (es_cpy oft (16 + 8 * g) (32 + 8 * g) 8) du := by
  refine es_Grp_c H ⟨pk_un hne, pk_un hne, rfl, pk_un (by omega)⟩ (fun i hi => ?_) ⟨?_, ?_, ?_⟩ (fun i hi => ⟨es_cpy_o (by omega), es_cpy_o (by omega), rfl⟩) (fun m i hm hi => ⟨es_cpy_o (by omega), es_cpy_o (by omega), rfl⟩)
  · rw [pk_un (by omega), pk_un (by omega)]
  · rw [pk_un (by omega), pk_un (by omega)]
  · rw [pk_un (by omega), pk_un (by omega)]
  · rw [pk_un (by omega), pk_un (by omega)]
theorem i_vc_crash {k : Nat} {u : SX} {v : SY} (I : i_Rel k u v) (hk : k + 4 ≤ 2048) (v1 : Int32) : wpX_crash (fun r u' => wpY_crash (fun r' v' => r' = r ∧ i_Rel (k + 4) u' v') v v1) u v1 := by
  obtain ⟨x_records, x_removedCount, x_flushed, x_drafted, x_height, x_time, x_foundAt, x_recordStream, x_recordType, x_recordVersion, x_recordValue, x_originProjection, x_originPosition, x_originInstruction, x_joined, x_removed, x_eventCount, x_cutLevel, x_draftType, x_draftValue, x_ops, x_arguments, x_programLength, x_states, x_noted, x_stack, x_metHeight, x_groupType, x_cursor, x_keptCursor, x_parked, x_rowCount, x_rowPosition, x_rowTimes, x_rowDue⟩ := u
  obtain ⟨y_count, y_flushed, y_calls, y_drafted, y_top, y_time, y_isCut, y_removed, y_stream, y_type, y_from, y_by, y_value, y_version, y_on, y_call, y_draftType, y_draftValue, y_op, y_with, y_length, y_height, y_torn, y_stack, y_position, y_cells, y_noted, y_wanted, y_formed, y_cursor, y_parked, y_where, y_often, y_due, y_many, y_found⟩ := v
  have J := i_up I
  obtain ⟨q, hq, c, f, d, L, hL, hD, hP, hS, hG, hF⟩ := I
  obtain ⟨rfl, rfl, rfl, rfl, rfl, rfl, rfl, rfl, rfl, rfl, rfl, rfl, rfl, hl⟩ := hL
  by_cases hv : 0 ≤ v1
  · obtain ⟨e, h1, h2, hX, hY⟩ := em_spared hl hv
    have hfc := hl.1.2.1
    have hrc := es_Log_rc hl h1 h2
    obtain ⟨_, nt0, nw0, nk0, u0, k0, _, H0⟩ := hG.2.2 0 (by omega)
    obtain ⟨_, nt1, nw1, nk1, u1, k1, _, H1⟩ := hG.2.2 1 (by omega)
    have hk0 := H0.1.2.2.2
    have hk1 := H1.1.2.2.2
    have H0' := es_Grp_rs H0 (by omega) hfc
    have H1' := es_Grp_ro (g := 0) (mk := nk0) H1 (by omega) (by omega) (by omega) hk0
    have H1'' := es_Grp_rs H1' (by omega) hfc
    have H0'' := es_Grp_ro (g := 1) (mk := nk1) H0' (by omega) (by omega) (by omega) hk1
    have e1 := H0.2.2.1.2.2.2.2.1
    have e2 := H1'.2.2.1.2.2.2.2.1
    have e3 := H0.2.2.1.2.2.2.2.2
    have e4 := H1'.2.2.1.2.2.2.2.2
    refine br_t hv (hX _ (nm_r (pk_sub h2) (ex_lose hl h1 h2 (fun ec' cl' g1 g2 => nm_e (ex_cr44 (fun st xn hx => ⟨3, ?_⟩))))))
    refine br_f (by decide) (ex_restore (g := 0) (by omega) e1 hk0 (nm_r es_01 (br_f (by decide) (ex_restore (g := 1) (by omega) e2 hk1 (nm_r es_12 (br_t (by decide) ?_))))))
    refine hY _ (nm_r (pk_sub h2) (nm_r (e' := upd y_length 3 0) (by rw [es_nb_0]) (ey_cr104 (fun po ce yn hy => ⟨3, ?_⟩))))
    refine ey_cr1 (g := 0) (by omega) e3 hk0 (ey_cr1 (g := 1) (by omega) e4 hk1 (br_t (by decide) (ey_cr274 (fun fd hfd => ?_))))
    obtain ⟨hd1, hd2, hd3, hd4, hd5, hd6⟩ := hD
    obtain ⟨rfl, hlen, hop, ho3, hok⟩ := hP
    refine ⟨rfl, q, by omega, e, e, 0, fun m => if m = 3 then 0 else L m, ⟨rfl, rfl, rfl, rfl, rfl, by rw [hrc], rfl, rfl, rfl, rfl, rfl, rfl, rfl, es_Log_crash hl h1 h2 g1 g2⟩, ⟨rfl, rfl, by omega, hd4, hd5, hd6⟩, ⟨rfl, fun m => ?_, fun m i hm hi => ?_, fun i hi => ?_, fun m hm => ?_⟩, es_St_cr hS h1 (fun p hp => if_neg (by omega)) hx hy, ⟨hG.1, hG.2.1, fun g hg => ?_⟩, Or.inl ⟨rfl, hfd⟩⟩
    · by_cases w : m = 3
      · rw [w, pk_us]; simp only [if_pos]; exact ⟨rfl, Nat.zero_le 14⟩
      · rw [pk_un w]; simp only [if_neg w]; exact hlen m
    · by_cases w : m = 3
      · simp only [if_pos w] at hi; exact absurd hi (Nat.not_lt_zero _)
      · simp only [if_neg w] at hi; exact hop m i hm hi
    · simp only [if_pos] at hi; exact absurd hi (Nat.not_lt_zero _)
    · simp only [if_neg (show ¬ m = 3 by omega)]; exact hok m hm
    · have hgc : g = 0 ∨ g = 1 := by omega
      rcases hgc with w | w
      · subst w
        exact ⟨(hG.2.2 0 hg).1, 0, nk0, nk0, k0, k0, fun _ => rfl, es_Grp_m H0'' (by have := H0.1.2.1; omega) (by have := H0.1.2.1; omega)⟩
      · subst w
        exact ⟨(hG.2.2 1 hg).1, 0, nk1, nk1, k1, k1, fun _ => rfl, es_Grp_m H1'' (by have := H1.1.2.1; omega) (by have := H1.1.2.1; omega)⟩
  · exact br_f hv (br_f hv ⟨rfl, J⟩)
end
end
section
section
/-! how a program is checked: the pieces -/
variable {x_records x_removedCount x_flushed x_drafted x_height x_time x_foundAt : Int32} {x_recordStream x_recordType x_recordVersion x_recordValue x_originProjection x_originPosition x_originInstruction x_joined x_removed x_eventCount x_cutLevel x_draftType x_draftValue x_ops x_arguments x_programLength x_states x_noted x_stack x_metHeight x_groupType x_cursor x_keptCursor x_parked x_rowCount x_rowPosition x_rowTimes x_rowDue : Nat → Int32} {y_count y_flushed y_calls y_drafted y_top y_time : Int32} {y_isCut y_removed y_stream y_type y_from y_by y_value y_version y_on y_call y_draftType y_draftValue y_op y_with y_length y_height y_torn y_stack y_position y_cells y_noted y_wanted y_formed y_cursor y_parked y_where y_often y_due y_many y_found : Nat → Int32} {c f q : Nat} {cut rm str ty fr byi val ver onn call oi jn ec cl : Nat → Int32} {post : Int32 → Prop}
theorem es_o14 {o : Nat} (h : o < 14) : o = 0 ∨ o = 1 ∨ o = 2 ∨ o = 3 ∨ o = 4 ∨ o = 5 ∨ o = 6 ∨ o = 7 ∨ o = 8 ∨ o = 9 ∨ o = 10 ∨ o = 11 ∨ o = 12 ∨ o = 13 := by omega
theorem ex_takes {o : Nat} (h : o < 14) (hp : post (nI (es_tk o))) : wpX_takes post (x_records, x_removedCount, x_flushed, x_drafted, x_height, x_time, x_foundAt, x_recordStream, x_recordType, x_recordVersion, x_recordValue, x_originProjection, x_originPosition, x_originInstruction, x_joined, x_removed, x_eventCount, x_cutLevel, x_draftType, x_draftValue, x_ops, x_arguments, x_programLength, x_states, x_noted, x_stack, x_metHeight, x_groupType, x_cursor, x_keptCursor, x_parked, x_rowCount, x_rowPosition, x_rowTimes, x_rowDue) (nI o) := by
  rcases es_o14 h with e | e | e | e | e | e | e | e | e | e | e | e | e | e <;> subst e <;> (repeat (first | exact br_t (by decide) hp | refine br_f (by decide) ?_))
theorem ex_gives {o : Nat} (h : o < 14) (hp : post (nI (es_gv o))) : wpX_gives post (x_records, x_removedCount, x_flushed, x_drafted, x_height, x_time, x_foundAt, x_recordStream, x_recordType, x_recordVersion, x_recordValue, x_originProjection, x_originPosition, x_originInstruction, x_joined, x_removed, x_eventCount, x_cutLevel, x_draftType, x_draftValue, x_ops, x_arguments, x_programLength, x_states, x_noted, x_stack, x_metHeight, x_groupType, x_cursor, x_keptCursor, x_parked, x_rowCount, x_rowPosition, x_rowTimes, x_rowDue) (nI o) := by
  rcases es_o14 h with e | e | e | e | e | e | e | e | e | e | e | e | e | e <;> subst e <;> (repeat (first | exact br_t (by decide) hp | refine br_f (by decide) ?_))
theorem ey_takes {o : Nat} (h : o < 14) (hp : post (nI (es_tk o))) : wpY_takes post (nI o) := by
  rcases es_o14 h with e | e | e | e | e | e | e | e | e | e | e | e | e | e <;> subst e <;> (repeat (first | exact br_t (by decide) hp | exact br_f (by decide) hp | refine br_t (by decide) ?_ | refine br_f (by decide) ?_))
theorem ey_gives {o : Nat} (h : o < 14) (hp : post (nI (es_gv o))) : wpY_gives post (nI o) := by
  rcases es_o14 h with e | e | e | e | e | e | e | e | e | e | e | e | e | e <;> subst e <;> (repeat (first | exact br_t (by decide) hp | exact br_f (by decide) hp | refine br_t (by decide) ?_ | refine br_f (by decide) ?_))
theorem es_fit_p {o : Nat} {cc : Int32} {i n : Nat} (h3 : o ≠ 3) (h9 : o ≠ 9) (h10 : o ≠ 10) (h11 : o ≠ 11) (h12 : o ≠ 12) : es_fit o cc i n :=
  ⟨fun z => by omega, fun z => by omega, fun z => by omega⟩
theorem es_fit_c {o : Nat} {cc : Int32} {i n : Nat} (h : o = 3 ∨ o = 9) : es_fit o cc i n ↔ ∃ t, t < 2 ∧ cc = nI t :=
  ⟨fun z => z.1 h, fun z => ⟨fun _ => z, fun y => by omega, fun y => by omega⟩⟩
theorem es_fit_j {o : Nat} {cc : Int32} {i n : Nat} (h : o = 10 ∨ o = 11) : es_fit o cc i n ↔ ∃ t, i < t ∧ t ≤ n ∧ cc = nI t :=
  ⟨fun z => z.2.1 h, fun z => ⟨fun y => by omega, fun _ => z, fun y => by omega⟩⟩
theorem es_fit_e {o : Nat} {cc : Int32} {i n : Nat} (h : o = 12) : es_fit o cc i n ↔ ∃ t, t < 40 ∧ cc = nI t :=
  ⟨fun z => z.2.2 h, fun z => ⟨fun y => by omega, fun y => by omega, fun _ => z⟩⟩
/-- not in the range -/
theorem es_rgn {x : Int32} {n : Nat} (hn : n < 2 ^ 31) (h : x < 0 ∨ nI n ≤ x) : ¬ ∃ t, t < n ∧ x = nI t := by
  intro ⟨t, ht, e⟩
  subst e
  rcases h with h | h
  · exact nI_pos (by omega) h
  · exact nI_ge ht hn h
theorem ex_f56 {cc : Int32} (h1 : (∃ t, t < 2 ∧ cc = nI t) → post 1) (h0 : ¬ (∃ t, t < 2 ∧ cc = nI t) → post 0) : wX_argumentFits_56 post cc x_records x_removedCount x_flushed x_drafted x_height x_time x_foundAt x_recordStream x_recordType x_recordVersion x_recordValue x_originProjection x_originPosition x_originInstruction x_joined x_removed x_eventCount x_cutLevel x_draftType x_draftValue x_ops x_arguments x_programLength x_states x_noted x_stack x_metHeight x_groupType x_cursor x_keptCursor x_parked x_rowCount x_rowPosition x_rowTimes x_rowDue := by
  rcases es_rg cc 2 (by decide) with h | ⟨t, ht, rfl⟩
  · have hp := h0 (es_rgn (by decide) h)
    by_cases z : cc < 0
    · exact br_t z hp
    · exact br_f z (br_t (h.resolve_left z) hp)
  · exact br_f (nI_pos (by omega)) (br_f (nI_ge ht (by decide)) (h1 ⟨t, ht, rfl⟩))
theorem ex_f71 {cc : Int32} {i n : Nat} (hi : i < n) (hn : n ≤ 14) (h1 : (∃ t, i < t ∧ t ≤ n ∧ cc = nI t) → post 1) (h0 : ¬ (∃ t, i < t ∧ t ≤ n ∧ cc = nI t) → post 0) : wX_argumentFits_71 post cc (nI i) (nI n) x_records x_removedCount x_flushed x_drafted x_height x_time x_foundAt x_recordStream x_recordType x_recordVersion x_recordValue x_originProjection x_originPosition x_originInstruction x_joined x_removed x_eventCount x_cutLevel x_draftType x_draftValue x_ops x_arguments x_programLength x_states x_noted x_stack x_metHeight x_groupType x_cursor x_keptCursor x_parked x_rowCount x_rowPosition x_rowTimes x_rowDue := by
  by_cases z : cc ≤ nI i
  · refine br_t z (h0 (fun ⟨t, g1, g2, e⟩ => ?_))
    subst e
    exact nI_ge g1 (by omega) z
  · by_cases w : nI n < cc
    · refine br_f z (br_t w (h0 (fun ⟨t, g1, g2, e⟩ => ?_)))
      subst e
      exact nI_nlt g2 (by omega) w
    · refine br_f z (br_f w (h1 ?_))
      obtain ⟨t, ht, rfl⟩ := nI_of (x := cc) (fun y => z (es_nlt (es_ltas (es_ltle y (nI_pos' (by omega))))))
      refine ⟨t, ?_, ?_, rfl⟩
      · rw [nI_leI (by omega) (by omega)] at z; omega
      · rw [nI_ltI (by omega) (by omega)] at w; omega
theorem ex_fits {o : Nat} {cc : Int32} {i n : Nat} (h : o < 14) (hi : i < n) (hn : n ≤ 14) (h1 : es_fit o cc i n → post 1) (h0 : ¬ es_fit o cc i n → post 0) : wpX_argumentFits post (x_records, x_removedCount, x_flushed, x_drafted, x_height, x_time, x_foundAt, x_recordStream, x_recordType, x_recordVersion, x_recordValue, x_originProjection, x_originPosition, x_originInstruction, x_joined, x_removed, x_eventCount, x_cutLevel, x_draftType, x_draftValue, x_ops, x_arguments, x_programLength, x_states, x_noted, x_stack, x_metHeight, x_groupType, x_cursor, x_keptCursor, x_parked, x_rowCount, x_rowPosition, x_rowTimes, x_rowDue) (nI o) cc (nI i) (nI n) := by
  rcases es_o14 h with e | e | e | e | e | e | e | e | e | e | e | e | e | e <;> subst e
  · exact br_t (by decide) (h1 (es_fit_p (by omega) (by omega) (by omega) (by omega) (by omega)))
  · exact br_t (by decide) (h1 (es_fit_p (by omega) (by omega) (by omega) (by omega) (by omega)))
  · exact br_t (by decide) (h1 (es_fit_p (by omega) (by omega) (by omega) (by omega) (by omega)))
  · refine br_f (by decide) (br_f (by decide) (br_t rfl ?_))
    exact ex_f56 (fun z => h1 ((es_fit_c (Or.inl rfl)).mpr z)) (fun z => h0 (fun w => z ((es_fit_c (Or.inl rfl)).mp w)))
  · exact br_f (by decide) (br_f (by decide) (br_f (by decide) (br_t rfl (h1 (es_fit_p (by omega) (by omega) (by omega) (by omega) (by omega))))))
  · exact br_f (by decide) (br_f (by decide) (br_f (by decide) (br_f (by decide) (br_t rfl (h1 (es_fit_p (by omega) (by omega) (by omega) (by omega) (by omega)))))))
  · exact br_f (by decide) (br_f (by decide) (br_f (by decide) (br_f (by decide) (br_f (by decide) (br_t rfl (h1 (es_fit_p (by omega) (by omega) (by omega) (by omega) (by omega))))))))
  · exact br_f (by decide) (br_f (by decide) (br_f (by decide) (br_f (by decide) (br_f (by decide) (br_f (by decide) (br_t rfl (h1 (es_fit_p (by omega) (by omega) (by omega) (by omega) (by omega)))))))))
  · exact br_f (by decide) (br_f (by decide) (br_f (by decide) (br_f (by decide) (br_f (by decide) (br_f (by decide) (br_f (by decide) (br_t rfl (h1 (es_fit_p (by omega) (by omega) (by omega) (by omega) (by omega))))))))))
  · refine br_f (by decide) (br_f (by decide) (br_f (by decide) (br_f (by decide) (br_f (by decide) (br_f (by decide) (br_f (by decide) (br_f (by decide) (br_t rfl ?_))))))))
    exact ex_f56 (fun z => h1 ((es_fit_c (Or.inr rfl)).mpr z)) (fun z => h0 (fun w => z ((es_fit_c (Or.inr rfl)).mp w)))
  · refine br_f (by decide) (br_f (by decide) (br_f (by decide) (br_f (by decide) (br_f (by decide) (br_f (by decide) (br_f (by decide) (br_f (by decide) (br_f (by decide) (br_t rfl ?_)))))))))
    exact ex_f71 hi hn (fun z => h1 ((es_fit_j (Or.inl rfl)).mpr z)) (fun z => h0 (fun w => z ((es_fit_j (Or.inl rfl)).mp w)))
  · refine br_f (by decide) (br_f (by decide) (br_f (by decide) (br_f (by decide) (br_f (by decide) (br_f (by decide) (br_f (by decide) (br_f (by decide) (br_f (by decide) (br_f (by decide) (br_t rfl ?_))))))))))
    exact ex_f71 hi hn (fun z => h1 ((es_fit_j (Or.inr rfl)).mpr z)) (fun z => h0 (fun w => z ((es_fit_j (Or.inr rfl)).mp w)))
  · refine br_f (by decide) (br_f (by decide) (br_f (by decide) (br_f (by decide) (br_f (by decide) (br_f (by decide) (br_f (by decide) (br_f (by decide) (br_f (by decide) (br_f (by decide) (br_f (by decide) (br_t rfl ?_)))))))))))
    rcases es_rg cc 40 (by decide) with h | ⟨t, ht, rfl⟩
    · have hp := h0 (fun w => es_rgn (by decide) h ((es_fit_e rfl).mp w))
      by_cases z : cc < 0
      · exact br_t z hp
      · exact br_f z (br_t (es_ltle (show (39 : Int32) < nI 40 by decide) (h.resolve_left z)) hp)
    · exact br_f (nI_pos (by omega)) (br_f (nI_nlt (a := 39) (by omega) (by decide)) (h1 ((es_fit_e rfl).mpr ⟨t, ht, rfl⟩)))
  · exact br_f (by decide) (br_t (by decide) (h1 (es_fit_p (by omega) (by omega) (by omega) (by omega) (by omega))))
/-- the reference's tests of the argument, up to its heights; x5 says whether it jumps -/
theorem ey_fits {pst : Int32 → SY → Prop} {J44 : Int32 → Int32 → Int32 → Int32 → Int32 → Int32 → Int32 → (Nat → Int32) → (Nat → Int32) → (Nat → Int32) → (Nat → Int32) → (Nat → Int32) → (Nat → Int32) → (Nat → Int32) → (Nat → Int32) → (Nat → Int32) → (Nat → Int32) → (Nat → Int32) → (Nat → Int32) → (Nat → Int32) → (Nat → Int32) → (Nat → Int32) → (Nat → Int32) → (Nat → Int32) → (Nat → Int32) → (Nat → Int32) → (Nat → Int32) → (Nat → Int32) → (Nat → Int32) → (Nat → Int32) → (Nat → Int32) → (Nat → Int32) → (Nat → Int32) → (Nat → Int32) → (Nat → Int32) → (Nat → Int32) → (Nat → Int32) → Prop} {o : Nat} {cc : Int32} {i n : Nat} (h : o < 14) (hi : i < n) (hn : n ≤ 14)
    (h1 : es_fit o cc i n → ∀ x5 : Int32, (x5 = 0 ↔ ¬ (o = 10 ∨ o = 11)) → wY_faulty_144 pst J44 (nI n) (nI i) (nI o) cc x5 y_count y_flushed y_calls y_drafted y_top y_time y_isCut y_removed y_stream y_type y_from y_by y_value y_version y_on y_call y_draftType y_draftValue y_op y_with y_length y_height y_torn y_stack y_position y_cells y_noted y_wanted y_formed y_cursor y_parked y_where y_often y_due y_many y_found) (h0 : ¬ es_fit o cc i n → pst (nI i) (y_count, y_flushed, y_calls, y_drafted, y_top, y_time, y_isCut, y_removed, y_stream, y_type, y_from, y_by, y_value, y_version, y_on, y_call, y_draftType, y_draftValue, y_op, y_with, y_length, y_height, y_torn, y_stack, y_position, y_cells, y_noted, y_wanted, y_formed, y_cursor, y_parked, y_where, y_often, y_due, y_many, y_found)) :
    (nI o = 10 → wY_faulty_82 pst J44 (nI n) (nI i) (nI o) cc y_count y_flushed y_calls y_drafted y_top y_time y_isCut y_removed y_stream y_type y_from y_by y_value y_version y_on y_call y_draftType y_draftValue y_op y_with y_length y_height y_torn y_stack y_position y_cells y_noted y_wanted y_formed y_cursor y_parked y_where y_often y_due y_many y_found) ∧ (¬ nI o = 10 → ((nI o = 11 → wY_faulty_82 pst J44 (nI n) (nI i) (nI o) cc y_count y_flushed y_calls y_drafted y_top y_time y_isCut y_removed y_stream y_type y_from y_by y_value y_version y_on y_call y_draftType y_draftValue y_op y_with y_length y_height y_torn y_stack y_position y_cells y_noted y_wanted y_formed y_cursor y_parked y_where y_often y_due y_many y_found) ∧ (¬ nI o = 11 → wY_faulty_87 pst J44 (nI n) (nI i) (nI o) cc 0 y_count y_flushed y_calls y_drafted y_top y_time y_isCut y_removed y_stream y_type y_from y_by y_value y_version y_on y_call y_draftType y_draftValue y_op y_with y_length y_height y_torn y_stack y_position y_cells y_noted y_wanted y_formed y_cursor y_parked y_where y_often y_due y_many y_found))) := by
  have n10 : (nI o = 10) ↔ o = 10 := nI_eq (b := 10) (by omega) (by decide)
  have n11 : (nI o = 11) ↔ o = 11 := nI_eq (b := 11) (by omega) (by decide)
  have n3 : (nI o = 3) ↔ o = 3 := nI_eq (b := 3) (by omega) (by decide)
  have n9 : (nI o = 9) ↔ o = 9 := nI_eq (b := 9) (by omega) (by decide)
  have n12 : (nI o = 12) ↔ o = 12 := nI_eq (b := 12) (by omega) (by decide)
  have jmp : (o = 10 ∨ o = 11) → wY_faulty_82 pst J44 (nI n) (nI i) (nI o) cc y_count y_flushed y_calls y_drafted y_top y_time y_isCut y_removed y_stream y_type y_from y_by y_value y_version y_on y_call y_draftType y_draftValue y_op y_with y_length y_height y_torn y_stack y_position y_cells y_noted y_wanted y_formed y_cursor y_parked y_where y_often y_due y_many y_found := by
    intro hj
    refine br_f (fun z => by have := n3.mp z; omega) (br_f (fun z => by have := n9.mp z; omega) (br_f (fun z => by have := n12.mp z; omega) (br_f (by decide) ?_)))
    by_cases z : cc ≤ nI i
    · refine br_t z (h0 (fun w => ?_))
      obtain ⟨t, g1, g2, e⟩ := (es_fit_j hj).mp w
      subst e
      exact nI_ge g1 (by omega) z
    · by_cases w : cc ≤ nI n
      · refine br_f z (br_t w (h1 ((es_fit_j hj).mpr ?_) 1 ⟨fun y => absurd y (by decide), fun y => absurd hj y⟩))
        obtain ⟨t, ht, rfl⟩ := nI_of (x := cc) (fun y => z (es_nlt (es_ltas (es_ltle y (nI_pos' (by omega))))))
        refine ⟨t, ?_, ?_, rfl⟩
        · rw [nI_leI (by omega) (by omega)] at z; omega
        · rw [nI_leI (by omega) (by omega)] at w; omega
      · refine br_f z (br_f w (h0 (fun y => ?_)))
        obtain ⟨t, g1, g2, e⟩ := (es_fit_j hj).mp y
        subst e
        exact w (nI_le g2 (by omega))
  by_cases z10 : o = 10
  · exact br_t (n10.mpr z10) (jmp (Or.inl z10))
  · by_cases z11 : o = 11
    · exact br_f (fun z => z10 (n10.mp z)) (br_t (n11.mpr z11) (jmp (Or.inr z11)))
    · refine br_f (fun z => z10 (n10.mp z)) (br_f (fun z => z11 (n11.mp z)) ?_)
      have nj : ¬ (o = 10 ∨ o = 11) := by omega
      have fin : es_fit o cc i n → wY_faulty_125 pst J44 (nI n) (nI i) (nI o) cc 0 y_count y_flushed y_calls y_drafted y_top y_time y_isCut y_removed y_stream y_type y_from y_by y_value y_version y_on y_call y_draftType y_draftValue y_op y_with y_length y_height y_torn y_stack y_position y_cells y_noted y_wanted y_formed y_cursor y_parked y_where y_often y_due y_many y_found := fun hf => br_t rfl (h1 hf 0 ⟨fun _ => nj, fun _ => rfl⟩)
      by_cases z39 : o = 3 ∨ o = 9
      · have c100 : wY_faulty_100 pst J44 (nI n) (nI i) (nI o) cc 0 y_count y_flushed y_calls y_drafted y_top y_time y_isCut y_removed y_stream y_type y_from y_by y_value y_version y_on y_call y_draftType y_draftValue y_op y_with y_length y_height y_torn y_stack y_position y_cells y_noted y_wanted y_formed y_cursor y_parked y_where y_often y_due y_many y_found := by
          rcases es_rg cc 2 (by decide) with g | ⟨t, ht, rfl⟩
          · exact ey_outT 2 rfl g (br_f (by decide) (h0 (fun w => es_rgn (by decide) g ((es_fit_c z39).mp w))))
          · exact ey_outF 2 t rfl (by decide) ht (br_t rfl (br_f (fun z => by have := n12.mp z; omega) (fin ((es_fit_c z39).mpr ⟨t, ht, rfl⟩))))
        by_cases z3 : o = 3
        · exact br_t (n3.mpr z3) c100
        · exact br_f (fun z => z3 (n3.mp z)) (br_t (n9.mpr (by omega)) c100)
      · refine br_f (fun z => by have := n3.mp z; omega) (br_f (fun z => by have := n9.mp z; omega) ?_)
        by_cases z12 : o = 12
        · refine br_t (n12.mpr z12) ?_
          rcases es_rg cc 40 (by decide) with g | ⟨t, ht, rfl⟩
          · exact ey_outT 40 rfl g (br_f (by decide) (h0 (fun w => es_rgn (by decide) g ((es_fit_e z12).mp w))))
          · exact ey_outF 40 t rfl (by decide) ht (br_t rfl (fin ((es_fit_e z12).mpr ⟨t, ht, rfl⟩)))
        · exact br_f (fun z => z12 (n12.mp z)) (fin (es_fit_p (by omega) (by omega) z10 z11 z12))
end
end
section
section
/-! heights are met, on both sides -/
variable {x_records x_removedCount x_flushed x_drafted x_height x_time x_foundAt : Int32} {x_recordStream x_recordType x_recordVersion x_recordValue x_originProjection x_originPosition x_originInstruction x_joined x_removed x_eventCount x_cutLevel x_draftType x_draftValue x_ops x_arguments x_programLength x_states x_noted x_stack x_metHeight x_groupType x_cursor x_keptCursor x_parked x_rowCount x_rowPosition x_rowTimes x_rowDue : Nat → Int32} {y_count y_flushed y_calls y_drafted y_top y_time : Int32} {y_isCut y_removed y_stream y_type y_from y_by y_value y_version y_on y_call y_draftType y_draftValue y_op y_with y_length y_height y_torn y_stack y_position y_cells y_noted y_wanted y_formed y_cursor y_parked y_where y_often y_due y_many y_found : Nat → Int32} {c f q : Nat} {cut rm str ty fr byi val ver onn call oi jn ec cl : Nat → Int32}
def es_Cr (n : Nat) (M he to : Nat → Int32) : Prop := ∀ j, j ≤ n → (to j = 0 ∧ M j = he j ∧ (he j = -1 ∨ ∃ h, h ≤ 4 ∧ he j = nI h)) ∨ (¬ to j = 0 ∧ M j = -2 ∧ ∃ h, h ≤ 4 ∧ he j = nI h)
theorem ex_meet {pst : SX → Prop} {j b : Nat} (hj : j < 15) (hp : pst (x_records, x_removedCount, x_flushed, x_drafted, x_height, x_time, x_foundAt, x_recordStream, x_recordType, x_recordVersion, x_recordValue, x_originProjection, x_originPosition, x_originInstruction, x_joined, x_removed, x_eventCount, x_cutLevel, x_draftType, x_draftValue, x_ops, x_arguments, x_programLength, x_states, x_noted, x_stack, es_met x_metHeight j b, x_groupType, x_cursor, x_keptCursor, x_parked, x_rowCount, x_rowPosition, x_rowTimes, x_rowDue)) : wpX_meet pst (x_records, x_removedCount, x_flushed, x_drafted, x_height, x_time, x_foundAt, x_recordStream, x_recordType, x_recordVersion, x_recordValue, x_originProjection, x_originPosition, x_originInstruction, x_joined, x_removed, x_eventCount, x_cutLevel, x_draftType, x_draftValue, x_ops, x_arguments, x_programLength, x_states, x_noted, x_stack, x_metHeight, x_groupType, x_cursor, x_keptCursor, x_parked, x_rowCount, x_rowPosition, x_rowTimes, x_rowDue) (nI j) (nI b) := by
  have cj : (nI j).toNatClampNeg = j := nI_clamp (by omega)
  have vj : vp_in (nI j) 15 := vp_in_nI hj (by decide)
  refine ⟨vj, ?_⟩
  rw [cj]
  by_cases z : x_metHeight j = -1
  · refine br_t z ⟨vj, nm_r (e' := es_met x_metHeight j b) ?_ hp⟩
    unfold es_met
    rw [if_pos z]
  · by_cases w : x_metHeight j = nI b
    · refine br_f z ⟨vj, br_t w ?_⟩
      have e : es_met x_metHeight j b = x_metHeight := by
        unfold es_met
        rw [if_neg z, if_pos w]; exact es_upd0 w
      rw [e] at hp
      exact hp
    · refine br_f z ⟨vj, br_f w ⟨vj, nm_r (e' := es_met x_metHeight j b) ?_ hp⟩⟩
      unfold es_met
      rw [if_neg z, if_neg w]
/-- the reference meets what the component meets -/
theorem em_meet {M : Nat → Int32} {n j b : Nat} (hC : es_Cr n M y_height y_torn) (hj : j ≤ n) (hn : n ≤ 14) (hb : b ≤ 4) :
    ∃ he to, es_Cr n (es_met M j b) he to ∧ ∀ pst : SY → Prop, pst (y_count, y_flushed, y_calls, y_drafted, y_top, y_time, y_isCut, y_removed, y_stream, y_type, y_from, y_by, y_value, y_version, y_on, y_call, y_draftType, y_draftValue, y_op, y_with, y_length, he, to, y_stack, y_position, y_cells, y_noted, y_wanted, y_formed, y_cursor, y_parked, y_where, y_often, y_due, y_many, y_found) → wpY_meet pst (y_count, y_flushed, y_calls, y_drafted, y_top, y_time, y_isCut, y_removed, y_stream, y_type, y_from, y_by, y_value, y_version, y_on, y_call, y_draftType, y_draftValue, y_op, y_with, y_length, y_height, y_torn, y_stack, y_position, y_cells, y_noted, y_wanted, y_formed, y_cursor, y_parked, y_where, y_often, y_due, y_many, y_found) (nI j) (nI b) := by
  have cj : (nI j).toNatClampNeg = j := nI_clamp (by omega)
  have vj : vp_in (nI j) 16 := vp_in_nI (by omega) (by decide)
  have hnb := es_nar b (by omega)
  rcases hC j hj with ⟨h1, h2, h3⟩ | ⟨h1, h2, h, hh, h3⟩
  · rcases h3 with h3 | ⟨h, hh, h3⟩
    · refine ⟨upd y_height j (nI b), y_torn, fun i hi => ?_, fun pst hp => ⟨vj, ?_⟩⟩
      · by_cases e : i = j
        · subst e
          unfold es_met
          rw [pk_us, pk_us, h2, if_pos h3]
          exact Or.inl ⟨h1, rfl, Or.inr ⟨b, hb, rfl⟩⟩
        · rw [es_met_o e, pk_un e]; exact hC i hi
      · rw [cj, h3]
        exact br_f (by decide) ⟨vj, nm_r (e' := upd y_height j (nI b)) (by rw [hnb.2, hnb.1]) hp⟩
    · have g0 : (0 : Int32) ≤ nI h := nI_pos' (by omega)
      by_cases e : h = b
      · subst e
        refine ⟨y_height, y_torn, fun i hi => ?_, fun pst hp => ⟨vj, ?_⟩⟩
        · by_cases e : i = j
          · subst e
            unfold es_met
            rw [pk_us, h2, h3, if_neg (fun z => es_m1n (by omega) z.symm), if_pos rfl]
            exact Or.inl ⟨h1, rfl, Or.inr ⟨h, hh, rfl⟩⟩
          · rw [es_met_o e]; exact hC i hi
        · rw [cj, h3]
          exact br_t g0 ⟨vj, br_t rfl hp⟩
      · have ne : ¬ nI h = nI b := fun z => e (es_inj z (by omega) (by omega))
        refine ⟨y_height, upd y_torn j 1, fun i hi => ?_, fun pst hp => ⟨vj, ?_⟩⟩
        · by_cases e : i = j
          · subst e
            unfold es_met
            rw [pk_us, pk_us, h2, h3, if_neg (fun z => es_m1n (by omega) z.symm), if_neg ne]
            exact Or.inr ⟨by decide, rfl, h, hh, rfl⟩
          · rw [es_met_o e, pk_un e]; exact hC i hi
        · rw [cj, h3]
          exact br_t g0 ⟨vj, br_f ne ⟨vj, nm_r (e' := upd y_torn j 1) (by rw [es_nb1]) hp⟩⟩
  · have g0 : (0 : Int32) ≤ nI h := nI_pos' (by omega)
    have em : es_met M j b j = -2 := by
      unfold es_met
      rw [pk_us, h2, if_neg (by decide), if_neg (es_m2n (by omega))]
    by_cases e : h = b
    · subst e
      refine ⟨y_height, y_torn, fun i hi => ?_, fun pst hp => ⟨vj, ?_⟩⟩
      · by_cases e : i = j
        · subst e
          rw [em]; exact Or.inr ⟨h1, rfl, h, hh, h3⟩
        · rw [es_met_o e]; exact hC i hi
      · rw [cj, h3]
        exact br_t g0 ⟨vj, br_t rfl hp⟩
    · have ne : ¬ nI h = nI b := fun z => e (es_inj z (by omega) (by omega))
      refine ⟨y_height, upd y_torn j 1, fun i hi => ?_, fun pst hp => ⟨vj, ?_⟩⟩
      · by_cases e : i = j
        · subst e
          rw [em, pk_us]; exact Or.inr ⟨by decide, rfl, h, hh, h3⟩
        · rw [es_met_o e, pk_un e]; exact hC i hi
      · rw [cj, h3]
        exact br_t g0 ⟨vj, br_f ne ⟨vj, nm_r (e' := upd y_torn j 1) (by rw [es_nb1]) hp⟩⟩
/-- the followers of instruction i, met with b -/
theorem em_fol {op wi M : Nat → Int32} {n i o b h : Nat} {cc : Int32} (ho : o < 14) (hop : op i = nI o) (hwi : wi i = cc) (hi : i < n) (hn : n ≤ 14) (hfit : es_fit o cc i n) (hb : b = h - es_tk o + es_gv o) (hb4 : b ≤ 4) (htk : es_tk o ≤ h) (hh : h ≤ 4)
    (hK : es_Chk n i op wi M) (hMi : M i = nI h) (hC : es_Cr n M y_height y_torn) :
    ∃ M' he to, es_Chk n (i + 1) op wi M' ∧ es_Cr n M' he to ∧
      (∀ pst : SX → Prop, pst (x_records, x_removedCount, x_flushed, x_drafted, x_height, x_time, x_foundAt, x_recordStream, x_recordType, x_recordVersion, x_recordValue, x_originProjection, x_originPosition, x_originInstruction, x_joined, x_removed, x_eventCount, x_cutLevel, x_draftType, x_draftValue, x_ops, x_arguments, x_programLength, x_states, x_noted, x_stack, M', x_groupType, x_cursor, x_keptCursor, x_parked, x_rowCount, x_rowPosition, x_rowTimes, x_rowDue) → wpX_meetFollowers pst (x_records, x_removedCount, x_flushed, x_drafted, x_height, x_time, x_foundAt, x_recordStream, x_recordType, x_recordVersion, x_recordValue, x_originProjection, x_originPosition, x_originInstruction, x_joined, x_removed, x_eventCount, x_cutLevel, x_draftType, x_draftValue, x_ops, x_arguments, x_programLength, x_states, x_noted, x_stack, M, x_groupType, x_cursor, x_keptCursor, x_parked, x_rowCount, x_rowPosition, x_rowTimes, x_rowDue) (nI o) cc (nI i) (nI b)) ∧
      (∀ (pst : Int32 → SY → Prop) (K : Int32 → SY → Prop) (x5 : Int32), (x5 = 0 ↔ ¬ (o = 10 ∨ o = 11)) → K (nI (i + 1)) (y_count, y_flushed, y_calls, y_drafted, y_top, y_time, y_isCut, y_removed, y_stream, y_type, y_from, y_by, y_value, y_version, y_on, y_call, y_draftType, y_draftValue, y_op, y_with, y_length, he, to, y_stack, y_position, y_cells, y_noted, y_wanted, y_formed, y_cursor, y_parked, y_where, y_often, y_due, y_many, y_found) →
        ((x5 = 0 → wY_faulty_213 pst ((fun a z_count z_flushed z_calls z_drafted z_top z_time z_isCut z_removed z_stream z_type z_from z_by z_value z_version z_on z_call z_draftType z_draftValue z_op z_with z_length z_height z_torn z_stack z_position z_cells z_noted z_wanted z_formed z_cursor z_parked z_where z_often z_due z_many z_found => K a (z_count, z_flushed, z_calls, z_drafted, z_top, z_time, z_isCut, z_removed, z_stream, z_type, z_from, z_by, z_value, z_version, z_on, z_call, z_draftType, z_draftValue, z_op, z_with, z_length, z_height, z_torn, z_stack, z_position, z_cells, z_noted, z_wanted, z_formed, z_cursor, z_parked, z_where, z_often, z_due, z_many, z_found))) (nI n) (nI i) (nI o) (nI b) y_count y_flushed y_calls y_drafted y_top y_time y_isCut y_removed y_stream y_type y_from y_by y_value y_version y_on y_call y_draftType y_draftValue y_op y_with y_length y_height y_torn y_stack y_position y_cells y_noted y_wanted y_formed y_cursor y_parked y_where y_often y_due y_many y_found) ∧ (¬ x5 = 0 → wpY_meet (fun u => match u with | (y_count, y_flushed, y_calls, y_drafted, y_top, y_time, y_isCut, y_removed, y_stream, y_type, y_from, y_by, y_value, y_version, y_on, y_call, y_draftType, y_draftValue, y_op, y_with, y_length, y_height, y_torn, y_stack, y_position, y_cells, y_noted, y_wanted, y_formed, y_cursor, y_parked, y_where, y_often, y_due, y_many, y_found) => wY_faulty_213 pst ((fun a z_count z_flushed z_calls z_drafted z_top z_time z_isCut z_removed z_stream z_type z_from z_by z_value z_version z_on z_call z_draftType z_draftValue z_op z_with z_length z_height z_torn z_stack z_position z_cells z_noted z_wanted z_formed z_cursor z_parked z_where z_often z_due z_many z_found => K a (z_count, z_flushed, z_calls, z_drafted, z_top, z_time, z_isCut, z_removed, z_stream, z_type, z_from, z_by, z_value, z_version, z_on, z_call, z_draftType, z_draftValue, z_op, z_with, z_length, z_height, z_torn, z_stack, z_position, z_cells, z_noted, z_wanted, z_formed, z_cursor, z_parked, z_where, z_often, z_due, z_many, z_found))) (nI n) (nI i) (nI o) (nI b) y_count y_flushed y_calls y_drafted y_top y_time y_isCut y_removed y_stream y_type y_from y_by y_value y_version y_on y_call y_draftType y_draftValue y_op y_with y_length y_height y_torn y_stack y_position y_cells y_noted y_wanted y_formed y_cursor y_parked y_where y_often y_due y_many y_found) (y_count, y_flushed, y_calls, y_drafted, y_top, y_time, y_isCut, y_removed, y_stream, y_type, y_from, y_by, y_value, y_version, y_on, y_call, y_draftType, y_draftValue, y_op, y_with, y_length, y_height, y_torn, y_stack, y_position, y_cells, y_noted, y_wanted, y_formed, y_cursor, y_parked, y_where, y_often, y_due, y_many, y_found) cc (nI b)))) := by
  have n10 : (nI o = 10) ↔ o = 10 := nI_eq (b := 10) (by omega) (by decide)
  have n11 : (nI o = 11) ↔ o = 11 := nI_eq (b := 11) (by omega) (by decide)
  have n13 : (nI o = 13) ↔ o = 13 := nI_eq (b := 13) (by omega) (by decide)
  have e1 : nI i + 1 = nI (i + 1) := nI_1 i
  by_cases hj : o = 10 ∨ o = 11
  · obtain ⟨t, ht1, ht2, ec⟩ := (es_fit_j hj).mp hfit
    subst ec
    obtain ⟨he1, to1, hC1, hY1⟩ := em_meet (j := t) (b := b) hC ht2 hn hb4
    have hK1 := es_Chk_met (b := b) (j := t) hb4 (by omega) (by omega) hK
    by_cases h11 : o = 11
    · refine ⟨es_met M t b, he1, to1, ?_, hC1, fun pst hp => ?_, fun pst K x5 h5 hp => br_f (fun z => h5.mp z hj) (hY1 _ (br_t (n11.mpr h11) (nm_r e1 hp)))⟩
      · refine es_Chk_in hK1 ((es_met_o (by omega)).trans hMi) hh ⟨o, ho, hop, by rw [hwi]; exact hfit, htk, by omega, fun t' g1 g2 g3 => ?_, fun g1 => absurd h11 g1⟩
        rw [hwi] at g3
        have := es_inj g3 (by omega) (by omega)
        subst this
        rw [← hb]
        rcases es_met_s (M := M) (j := t) (b := b) with z | z
        · exact Or.inl z
        · exact Or.inr ⟨z, Or.inl trivial⟩
      · refine br_f (fun z => by have := n10.mp z; omega) (br_t (n11.mpr h11) ?_)
        exact ex_meet (by omega) (br_t (n11.mpr h11) hp)
    · have h10 : o = 10 := by omega
      obtain ⟨he2, to2, hC2, hY2⟩ := em_meet (y_height := he1) (y_torn := to1) (j := i + 1) (b := b) hC1 (by omega) hn hb4
      have hK2 := es_Chk_met (b := b) (j := i + 1) hb4 (by omega) (by omega) hK1
      have z11 : ¬ nI o = 11 := fun z => h11 (n11.mp z)
      have z13 : ¬ nI o = 13 := fun z => by have := n13.mp z; omega
      refine ⟨es_met (es_met M t b) (i + 1) b, he2, to2, ?_, hC2, fun pst hp => ?_, fun pst K x5 h5 hp => br_f (fun z => h5.mp z hj) (hY1 _ (br_f z11 (br_f z13 ?_)))⟩
      · refine es_Chk_in hK2 ((es_met_o (by omega)).trans ((es_met_o (by omega)).trans hMi)) hh ⟨o, ho, hop, by rw [hwi]; exact hfit, htk, by omega, fun t' g1 g2 g3 => ?_, fun g1 g2 => ?_⟩
        · rw [hwi] at g3
          have := es_inj g3 (by omega) (by omega)
          subst this
          rw [← hb]
          rcases es_met_k (j := i + 1) (b := b) (h := b) (by omega) (es_met_s (M := M) (j := t) (b := b)) with z | z
          · exact Or.inl z
          · exact Or.inr ⟨z, Or.inl trivial⟩
        · rw [← hb]
          rcases es_met_s (M := es_met M t b) (j := i + 1) (b := b) with z | z
          · exact Or.inl z
          · exact Or.inr ⟨z, Or.inl trivial⟩
      · refine br_t (n10.mpr h10) ?_
        refine ex_meet (by omega) (br_f z11 (br_f z13 ?_))
        rw [e1]
        exact ex_meet (by omega) hp
      · rw [e1]
        exact hY2 _ (nm_e hp)
  · have z10 : ¬ nI o = 10 := fun z => hj (Or.inl (n10.mp z))
    have z11 : ¬ nI o = 11 := fun z => hj (Or.inr (n11.mp z))
    by_cases h13 : o = 13
    · refine ⟨M, y_height, y_torn, ?_, hC, fun pst hp => br_f z10 (br_f z11 (br_f z11 (br_t (n13.mpr h13) hp))), fun pst K x5 h5 hp => br_t (h5.mpr hj) (br_f z11 (br_t (n13.mpr h13) (nm_r e1 hp)))⟩
      exact es_Chk_in hK hMi hh ⟨o, ho, hop, by rw [hwi]; exact hfit, htk, by omega, fun t' g1 => absurd g1 hj, fun _ g2 => absurd h13 g2⟩
    · have z13 : ¬ nI o = 13 := fun z => h13 (n13.mp z)
      obtain ⟨he1, to1, hC1, hY1⟩ := em_meet (j := i + 1) (b := b) hC (by omega) hn hb4
      have hK1 := es_Chk_met (b := b) (j := i + 1) hb4 (by omega) (by omega) hK
      refine ⟨es_met M (i + 1) b, he1, to1, ?_, hC1, fun pst hp => br_f z10 (br_f z11 (br_f z11 (br_f z13 ?_))), fun pst K x5 h5 hp => br_t (h5.mpr hj) (br_f z11 (br_f z13 ?_))⟩
      · refine es_Chk_in hK1 ((es_met_o (by omega)).trans hMi) hh ⟨o, ho, hop, by rw [hwi]; exact hfit, htk, by omega, fun t' g1 => absurd g1 hj, fun g1 g2 => ?_⟩
        rw [← hb]
        rcases es_met_s (M := M) (j := i + 1) (b := b) with z | z
        · exact Or.inl z
        · exact Or.inr ⟨z, Or.inl trivial⟩
      · rw [e1]
        exact ex_meet (by omega) hp
      · rw [e1]
        exact hY1 _ (nm_e hp)
end
end
section
section
/-! the check of the draft, in lockstep -/
variable {x_records x_removedCount x_flushed x_drafted x_height x_time x_foundAt : Int32} {x_recordStream x_recordType x_recordVersion x_recordValue x_originProjection x_originPosition x_originInstruction x_joined x_removed x_eventCount x_cutLevel x_draftType x_draftValue x_ops x_arguments x_programLength x_states x_noted x_stack x_metHeight x_groupType x_cursor x_keptCursor x_parked x_rowCount x_rowPosition x_rowTimes x_rowDue : Nat → Int32} {y_count y_flushed y_calls y_drafted y_top y_time : Int32} {y_isCut y_removed y_stream y_type y_from y_by y_value y_version y_on y_call y_draftType y_draftValue y_op y_with y_length y_height y_torn y_stack y_position y_cells y_noted y_wanted y_formed y_cursor y_parked y_where y_often y_due y_many y_found : Nat → Int32} {c f q : Nat} {cut rm str ty fr byi val ver onn call oi jn ec cl : Nat → Int32} {d : Nat} {L : Nat → Nat}
def es_o1 : Option Nat → Int32
  | none => -1
  | some b => nI b
theorem es_beh {h o : Nat} (htk : es_tk o ≤ h) : nI h - nI (es_tk o) + nI (es_gv o) = nI (h - es_tk o + es_gv o) := by
  rw [pk_sub htk, nI_add]
theorem es_tk2 {o : Nat} : es_tk o ≤ 2 := by
  unfold es_tk
  split <;> (try omega)
  split <;> (try omega)
  split <;> (try omega)
  split <;> omega
theorem es_gv2 {o : Nat} : es_gv o ≤ 2 := by
  unfold es_gv
  split <;> (try omega)
  split <;> omega
theorem es_sgn {h t : Nat} (hh : h ≤ 4) (ht : t ≤ 2) : nI h - nI t < 0 ↔ h < t := by
  have : ∀ (a : Fin 5) (b : Fin 3), (nI a.val - nI b.val < 0) ↔ a.val < b.val := by decide +kernel
  exact this ⟨h, by omega⟩ ⟨t, by omega⟩
theorem em_chk {n : Nat} (hn : n ≤ 14) (hop : ∀ i, i < n → x_ops (42 + i) = y_op (42 + i) ∧ x_arguments (42 + i) = y_with (42 + i)) (ho : ∀ i, i < n → ∃ o, o < 14 ∧ y_op (42 + i) = nI o) :
    ∀ m i, i + m = n → ∀ M he to : Nat → Int32, es_Chk n i (fun i => y_op (42 + i)) (fun i => y_with (42 + i)) M → es_Cr n M he to →
      ∃ (o : Option Nat) (M' he' to' : Nat → Int32), (o = none → es_OK n (fun i => y_op (42 + i)) (fun i => y_with (42 + i))) ∧ (∀ b, o = some b → b < n) ∧
        (∀ post : Int32 → SX → Prop, post (es_ox o) (x_records, x_removedCount, x_flushed, x_drafted, x_height, x_time, x_foundAt, x_recordStream, x_recordType, x_recordVersion, x_recordValue, x_originProjection, x_originPosition, x_originInstruction, x_joined, x_removed, x_eventCount, x_cutLevel, x_draftType, x_draftValue, x_ops, x_arguments, x_programLength, x_states, x_noted, x_stack, M', x_groupType, x_cursor, x_keptCursor, x_parked, x_rowCount, x_rowPosition, x_rowTimes, x_rowDue) → wX_firstFaulty_36 post (nI n) (m + 1) (nI i) x_records x_removedCount x_flushed x_drafted x_height x_time x_foundAt x_recordStream x_recordType x_recordVersion x_recordValue x_originProjection x_originPosition x_originInstruction x_joined x_removed x_eventCount x_cutLevel x_draftType x_draftValue x_ops x_arguments x_programLength x_states x_noted x_stack M x_groupType x_cursor x_keptCursor x_parked x_rowCount x_rowPosition x_rowTimes x_rowDue) ∧
        (∀ post : Int32 → SY → Prop, post (es_o1 o) (y_count, y_flushed, y_calls, y_drafted, y_top, y_time, y_isCut, y_removed, y_stream, y_type, y_from, y_by, y_value, y_version, y_on, y_call, y_draftType, y_draftValue, y_op, y_with, y_length, he', to', y_stack, y_position, y_cells, y_noted, y_wanted, y_formed, y_cursor, y_parked, y_where, y_often, y_due, y_many, y_found) → wY_faulty_44 post (nI n) (m + 1) (nI i) y_count y_flushed y_calls y_drafted y_top y_time y_isCut y_removed y_stream y_type y_from y_by y_value y_version y_on y_call y_draftType y_draftValue y_op y_with y_length he to y_stack y_position y_cells y_noted y_wanted y_formed y_cursor y_parked y_where y_often y_due y_many y_found) := by
  intro m
  induction m with
  | zero =>
    intro i hi M he to hK hC
    have e : i = n := by omega
    subst e
    exact ⟨none, M, he, to, fun _ => es_Chk_end hK, fun b e => (by cases e), fun post hp => br_t (Int32.le_refl _) hp, fun post hp => br_t (Int32.le_refl _) hp⟩
  | succ m ih =>
    intro i hi M he to hK hC
    have hin : i < n := by omega
    obtain ⟨o, ho14, eo⟩ := ho i hin
    have hx1 : x_ops (42 + i) = nI o := (hop i hin).1.trans eo
    have hx2 : x_arguments (42 + i) = y_with (42 + i) := (hop i hin).2
    have e42 : 42 + nI i = nI (42 + i) := nI_add 42 i
    have v42 : vp_in (42 + nI i) 56 := by rw [e42]; exact vp_in_nI (by omega) (by decide)
    have c42 : (42 + nI i).toNatClampNeg = 42 + i := by rw [e42, nI_clamp (by omega)]
    have v15 : vp_in (nI i) 15 := vp_in_nI (by omega) (by decide)
    have v16 : vp_in (nI i) 16 := vp_in_nI (by omega) (by decide)
    have ci : (nI i).toNatClampNeg = i := nI_clamp (by omega)
    have ni : ¬ nI n ≤ nI i := nI_ge hin (by omega)
    generalize hcc : y_with (42 + i) = cc at *
    -- both fall at i
    have bad : (∀ post : Int32 → SX → Prop, post (nI i) (x_records, x_removedCount, x_flushed, x_drafted, x_height, x_time, x_foundAt, x_recordStream, x_recordType, x_recordVersion, x_recordValue, x_originProjection, x_originPosition, x_originInstruction, x_joined, x_removed, x_eventCount, x_cutLevel, x_draftType, x_draftValue, x_ops, x_arguments, x_programLength, x_states, x_noted, x_stack, M, x_groupType, x_cursor, x_keptCursor, x_parked, x_rowCount, x_rowPosition, x_rowTimes, x_rowDue) → wX_firstFaulty_36 post (nI n) (m + 1 + 1) (nI i) x_records x_removedCount x_flushed x_drafted x_height x_time x_foundAt x_recordStream x_recordType x_recordVersion x_recordValue x_originProjection x_originPosition x_originInstruction x_joined x_removed x_eventCount x_cutLevel x_draftType x_draftValue x_ops x_arguments x_programLength x_states x_noted x_stack M x_groupType x_cursor x_keptCursor x_parked x_rowCount x_rowPosition x_rowTimes x_rowDue) → (∀ post : Int32 → SY → Prop, post (nI i) (y_count, y_flushed, y_calls, y_drafted, y_top, y_time, y_isCut, y_removed, y_stream, y_type, y_from, y_by, y_value, y_version, y_on, y_call, y_draftType, y_draftValue, y_op, y_with, y_length, he, to, y_stack, y_position, y_cells, y_noted, y_wanted, y_formed, y_cursor, y_parked, y_where, y_often, y_due, y_many, y_found) → wY_faulty_44 post (nI n) (m + 1 + 1) (nI i) y_count y_flushed y_calls y_drafted y_top y_time y_isCut y_removed y_stream y_type y_from y_by y_value y_version y_on y_call y_draftType y_draftValue y_op y_with y_length he to y_stack y_position y_cells y_noted y_wanted y_formed y_cursor y_parked y_where y_often y_due y_many y_found) →
        ∃ (o : Option Nat) (M' he' to' : Nat → Int32), (o = none → es_OK n (fun i => y_op (42 + i)) (fun i => y_with (42 + i))) ∧ (∀ b, o = some b → b < n) ∧
        (∀ post : Int32 → SX → Prop, post (es_ox o) (x_records, x_removedCount, x_flushed, x_drafted, x_height, x_time, x_foundAt, x_recordStream, x_recordType, x_recordVersion, x_recordValue, x_originProjection, x_originPosition, x_originInstruction, x_joined, x_removed, x_eventCount, x_cutLevel, x_draftType, x_draftValue, x_ops, x_arguments, x_programLength, x_states, x_noted, x_stack, M', x_groupType, x_cursor, x_keptCursor, x_parked, x_rowCount, x_rowPosition, x_rowTimes, x_rowDue) → wX_firstFaulty_36 post (nI n) (m + 1 + 1) (nI i) x_records x_removedCount x_flushed x_drafted x_height x_time x_foundAt x_recordStream x_recordType x_recordVersion x_recordValue x_originProjection x_originPosition x_originInstruction x_joined x_removed x_eventCount x_cutLevel x_draftType x_draftValue x_ops x_arguments x_programLength x_states x_noted x_stack M x_groupType x_cursor x_keptCursor x_parked x_rowCount x_rowPosition x_rowTimes x_rowDue) ∧
        (∀ post : Int32 → SY → Prop, post (es_o1 o) (y_count, y_flushed, y_calls, y_drafted, y_top, y_time, y_isCut, y_removed, y_stream, y_type, y_from, y_by, y_value, y_version, y_on, y_call, y_draftType, y_draftValue, y_op, y_with, y_length, he', to', y_stack, y_position, y_cells, y_noted, y_wanted, y_formed, y_cursor, y_parked, y_where, y_often, y_due, y_many, y_found) → wY_faulty_44 post (nI n) (m + 1 + 1) (nI i) y_count y_flushed y_calls y_drafted y_top y_time y_isCut y_removed y_stream y_type y_from y_by y_value y_version y_on y_call y_draftType y_draftValue y_op y_with y_length he to y_stack y_position y_cells y_noted y_wanted y_formed y_cursor y_parked y_where y_often y_due y_many y_found) :=
      fun hX hY => ⟨some i, M, he, to, fun e => (by cases e), fun b e => (by cases e; exact hin), hX, hY⟩
    by_cases hfit : es_fit o cc i n
    · rcases hC i (by omega) with ⟨t0, hMh, hr⟩ | ⟨t0, hM2, h, hh, hhe⟩
      · rcases hr with hr | ⟨h, hh, hhe⟩
        · -- not met
          obtain ⟨o', M', he', to', k1, k2, hX, hY⟩ := ih (i + 1) (by omega) M he to (es_Chk_un hK (hMh.trans hr)) hC
          refine ⟨o', M', he', to', k1, k2, fun post hp => br_f ni ⟨v42, nm_r (e' := nI o) (by rw [c42, hx1]) ⟨v42, nm_r (e' := cc) (by rw [c42, hx2]) (ex_fits ho14 hin hn (fun _ => br_f (by decide) ⟨v15, br_t (by rw [ci]; exact hMh.trans hr) (nm_r (nI_1 _) (hX post hp))⟩) (fun z => absurd hfit z))⟩⟩, fun post hp => br_f ni ⟨v42, nm_r (e' := nI o) (by rw [c42, eo]) ⟨v42, nm_r (e' := cc) (by rw [c42, hcc]) (ey_fits ho14 hin hn (fun _ x5 h5 => ⟨v16, nm_r (e' := (-1 : Int32)) (by rw [ci, hr]) (br_f (by decide) (nm_r (nI_1 _) (hY post hp)))⟩) (fun z => absurd hfit z))⟩⟩⟩
        · have hMi : M i = nI h := hMh.trans hhe
          have nm1 : ¬ M (nI i).toNatClampNeg = -1 := by rw [ci, hMi]; exact es_nm1 (by omega)
          have nm2 : ¬ M (nI i).toNatClampNeg = -2 := by rw [ci, hMi]; exact fun z => es_m2n (by omega) z.symm
          have g0 : (0 : Int32) ≤ nI h := nI_pos' (by omega)
          have t2 := es_tk2 (o := o)
          have v2 := es_gv2 (o := o)
          by_cases htk : h < es_tk o
          · exact bad (fun post hp => br_f ni ⟨v42, nm_r (e' := nI o) (by rw [c42, hx1]) ⟨v42, nm_r (e' := cc) (by rw [c42, hx2]) (ex_fits ho14 hin hn (fun _ => br_f (by decide) ⟨v15, br_f nm1 ⟨v15, ex_takes ho14 (nm_r (e' := nI h - nI (es_tk o)) (by rw [ci, hMi]) (ex_gives ho14 (nm_e ⟨v15, br_f nm2 (br_t ((es_sgn hh t2).mpr htk) hp)⟩)))⟩⟩) (fun z => absurd hfit z))⟩⟩) (fun post hp => br_f ni ⟨v42, nm_r (e' := nI o) (by rw [c42, eo]) ⟨v42, nm_r (e' := cc) (by rw [c42, hcc]) (ey_fits ho14 hin hn (fun _ x5 h5 => ⟨v16, nm_r (e' := nI h) (by rw [ci, hhe]) (br_t g0 (ey_takes ho14 (ey_gives ho14 (nm_e ⟨v16, br_t (by rw [ci]; exact t0) (ey_takes ho14 (br_t (nI_lt htk (by omega)) hp))⟩))))⟩) (fun z => absurd hfit z))⟩⟩)
          · have nlt : ¬ nI h - nI (es_tk o) < 0 := fun z => htk ((es_sgn hh t2).mp z)
            have nlt2 : ¬ nI h < nI (es_tk o) := nI_nlt (by omega) (by omega)
            have eb := es_beh (h := h) (o := o) (by omega)
            by_cases hb4 : h - es_tk o + es_gv o ≤ 4
            · have le4 : nI (h - es_tk o + es_gv o) ≤ 4 := nI_le (b := 4) hb4 (by decide)
              obtain ⟨MA, heA, toA, hKA, hCA, hXA, hYA⟩ := em_fol (op := fun i => y_op (42 + i)) (wi := fun i => y_with (42 + i)) (i := i) (y_height := he) (y_torn := to) ho14 eo hcc hin hn hfit rfl hb4 (by omega) hh hK hMi hC
              obtain ⟨o', M', he', to', k1, k2, hX, hY⟩ := ih (i + 1) (by omega) MA heA toA hKA hCA
              refine ⟨o', M', he', to', k1, k2, fun post hp => br_f ni ⟨v42, nm_r (e' := nI o) (by rw [c42, hx1]) ⟨v42, nm_r (e' := cc) (by rw [c42, hx2]) (ex_fits ho14 hin hn (fun _ => br_f (by decide) ⟨v15, br_f nm1 ⟨v15, ex_takes ho14 (nm_r (e' := nI h - nI (es_tk o)) (by rw [ci, hMi]) (ex_gives ho14 (nm_e ⟨v15, br_f nm2 (br_f nlt ?_)⟩)))⟩⟩) (fun z => absurd hfit z))⟩⟩, fun post hp => br_f ni ⟨v42, nm_r (e' := nI o) (by rw [c42, eo]) ⟨v42, nm_r (e' := cc) (by rw [c42, hcc]) (ey_fits ho14 hin hn (fun _ x5 h5 => ⟨v16, nm_r (e' := nI h) (by rw [ci, hhe]) (br_t g0 (ey_takes ho14 (ey_gives ho14 (nm_e ⟨v16, br_t (by rw [ci]; exact t0) (ey_takes ho14 (br_f nlt2 ?_))⟩))))⟩) (fun z => absurd hfit z))⟩⟩⟩
              · rw [eb]
                exact br_t le4 (hXA _ (nm_r (nI_1 _) (hX post hp)))
              · rw [eb]
                exact br_t le4 (hYA post (fun x2 v => match v with | (y_count, y_flushed, y_calls, y_drafted, y_top, y_time, y_isCut, y_removed, y_stream, y_type, y_from, y_by, y_value, y_version, y_on, y_call, y_draftType, y_draftValue, y_op, y_with, y_length, y_height, y_torn, y_stack, y_position, y_cells, y_noted, y_wanted, y_formed, y_cursor, y_parked, y_where, y_often, y_due, y_many, y_found) => wY_faulty_44 post (nI n) (m + 1) x2 y_count y_flushed y_calls y_drafted y_top y_time y_isCut y_removed y_stream y_type y_from y_by y_value y_version y_on y_call y_draftType y_draftValue y_op y_with y_length y_height y_torn y_stack y_position y_cells y_noted y_wanted y_formed y_cursor y_parked y_where y_often y_due y_many y_found) x5 h5 (hY post hp))
            · have gt4 : ¬ nI (h - es_tk o + es_gv o) ≤ 4 := nI_ge (a := 4) (by omega) (by omega)
              refine bad (fun post hp => br_f ni ⟨v42, nm_r (e' := nI o) (by rw [c42, hx1]) ⟨v42, nm_r (e' := cc) (by rw [c42, hx2]) (ex_fits ho14 hin hn (fun _ => br_f (by decide) ⟨v15, br_f nm1 ⟨v15, ex_takes ho14 (nm_r (e' := nI h - nI (es_tk o)) (by rw [ci, hMi]) (ex_gives ho14 (nm_e ⟨v15, br_f nm2 (br_f nlt ?_)⟩)))⟩⟩) (fun z => absurd hfit z))⟩⟩) (fun post hp => br_f ni ⟨v42, nm_r (e' := nI o) (by rw [c42, eo]) ⟨v42, nm_r (e' := cc) (by rw [c42, hcc]) (ey_fits ho14 hin hn (fun _ x5 h5 => ⟨v16, nm_r (e' := nI h) (by rw [ci, hhe]) (br_t g0 (ey_takes ho14 (ey_gives ho14 (nm_e ⟨v16, br_t (by rw [ci]; exact t0) (ey_takes ho14 (br_f nlt2 ?_))⟩))))⟩) (fun z => absurd hfit z))⟩⟩)
              · rw [eb]; exact br_f gt4 hp
              · rw [eb]; exact br_f gt4 hp
      · -- torn
        have nm1 : ¬ M (nI i).toNatClampNeg = -1 := by rw [ci, hM2]; decide
        have m2 : M (nI i).toNatClampNeg = -2 := by rw [ci, hM2]
        refine bad (fun post hp => br_f ni ⟨v42, nm_r (e' := nI o) (by rw [c42, hx1]) ⟨v42, nm_r (e' := cc) (by rw [c42, hx2]) (ex_fits ho14 hin hn (fun _ => br_f (by decide) ⟨v15, br_f nm1 ⟨v15, ex_takes ho14 (nm_e (ex_gives ho14 (nm_e ⟨v15, br_t m2 hp⟩)))⟩⟩) (fun z => absurd hfit z))⟩⟩) (fun post hp => br_f ni ⟨v42, nm_r (e' := nI o) (by rw [c42, eo]) ⟨v42, nm_r (e' := cc) (by rw [c42, hcc]) (ey_fits ho14 hin hn (fun _ x5 h5 => ⟨v16, nm_r (e' := nI h) (by rw [ci, hhe]) (br_t (nI_pos' (by omega)) (ey_takes ho14 (ey_gives ho14 (nm_e ⟨v16, br_f (by rw [ci]; exact t0) hp⟩))))⟩) (fun z => absurd hfit z))⟩⟩)
    · exact bad (fun post hp => br_f ni ⟨v42, nm_r (e' := nI o) (by rw [c42, hx1]) ⟨v42, nm_r (e' := cc) (by rw [c42, hx2]) (ex_fits ho14 hin hn (fun z => absurd z hfit) (fun _ => br_t rfl hp))⟩⟩) (fun post hp => br_f ni ⟨v42, nm_r (e' := nI o) (by rw [c42, eo]) ⟨v42, nm_r (e' := cc) (by rw [c42, hcc]) (ey_fits ho14 hin hn (fun z => absurd z hfit) (fun _ => hp))⟩⟩)
end
end
section
section
/-! define -/
variable {x_records x_removedCount x_flushed x_drafted x_height x_time x_foundAt : Int32} {x_recordStream x_recordType x_recordVersion x_recordValue x_originProjection x_originPosition x_originInstruction x_joined x_removed x_eventCount x_cutLevel x_draftType x_draftValue x_ops x_arguments x_programLength x_states x_noted x_stack x_metHeight x_groupType x_cursor x_keptCursor x_parked x_rowCount x_rowPosition x_rowTimes x_rowDue : Nat → Int32} {y_count y_flushed y_calls y_drafted y_top y_time : Int32} {y_isCut y_removed y_stream y_type y_from y_by y_value y_version y_on y_call y_draftType y_draftValue y_op y_with y_length y_height y_torn y_stack y_position y_cells y_noted y_wanted y_formed y_cursor y_parked y_where y_often y_due y_many y_found : Nat → Int32} {c f q : Nat} {cut rm str ty fr byi val ver onn call oi jn ec cl : Nat → Int32} {d : Nat} {L : Nat → Nat}
def es_fl (f : Nat → Int32) (v : Int32) (t m : Nat) : Nat → Int32 := fun j => if t ≤ j ∧ j < t + m then v else f j
theorem es_fl_0 {f : Nat → Int32} {v : Int32} {t : Nat} : es_fl f v t 0 = f := by
  funext j
  simp only [es_fl]
  rw [if_neg (by omega)]
theorem es_fl_s {f : Nat → Int32} {v : Int32} {t i : Nat} : upd (es_fl f v t i) (t + i) v = es_fl f v t (i + 1) := by
  funext j
  by_cases e : j = t + i
  · subst e
    rw [pk_us]
    simp only [es_fl]
    rw [if_pos (by omega)]
  · rw [pk_un e]
    simp only [es_fl]
    by_cases z : t ≤ j ∧ j < t + i
    · rw [if_pos z, if_pos (by omega)]
    · rw [if_neg z, if_neg (by omega)]
theorem es_fl_i {f : Nat → Int32} {v : Int32} {t m i : Nat} (h : i < m) : es_fl f v t m (t + i) = v := if_pos (by omega)
theorem es_fl_o {f : Nat → Int32} {v : Int32} {t m j : Nat} (h : j < t ∨ t + m ≤ j) : es_fl f v t m j = f j := if_neg (by omega)
theorem em_faulty {n : Nat} (h0 : 0 < n) (hn : n ≤ 14) (hlx : x_programLength 3 = nI n) (hly : y_length 3 = nI n) (hop : ∀ i, i < n → x_ops (42 + i) = y_op (42 + i) ∧ x_arguments (42 + i) = y_with (42 + i)) (ho : ∀ i, i < n → ∃ o, o < 14 ∧ y_op (42 + i) = nI o) :
    ∃ (o : Option Nat) (M' he' to' : Nat → Int32), (o = none → es_OK n (fun i => y_op (42 + i)) (fun i => y_with (42 + i))) ∧ (∀ b, o = some b → b < n) ∧
        (∀ post : Int32 → SX → Prop, post (es_ox o) (x_records, x_removedCount, x_flushed, x_drafted, x_height, x_time, x_foundAt, x_recordStream, x_recordType, x_recordVersion, x_recordValue, x_originProjection, x_originPosition, x_originInstruction, x_joined, x_removed, x_eventCount, x_cutLevel, x_draftType, x_draftValue, x_ops, x_arguments, x_programLength, x_states, x_noted, x_stack, M', x_groupType, x_cursor, x_keptCursor, x_parked, x_rowCount, x_rowPosition, x_rowTimes, x_rowDue) → wpX_firstFaulty post (x_records, x_removedCount, x_flushed, x_drafted, x_height, x_time, x_foundAt, x_recordStream, x_recordType, x_recordVersion, x_recordValue, x_originProjection, x_originPosition, x_originInstruction, x_joined, x_removed, x_eventCount, x_cutLevel, x_draftType, x_draftValue, x_ops, x_arguments, x_programLength, x_states, x_noted, x_stack, x_metHeight, x_groupType, x_cursor, x_keptCursor, x_parked, x_rowCount, x_rowPosition, x_rowTimes, x_rowDue)) ∧
        (∀ post : Int32 → SY → Prop, post (es_o1 o) (y_count, y_flushed, y_calls, y_drafted, y_top, y_time, y_isCut, y_removed, y_stream, y_type, y_from, y_by, y_value, y_version, y_on, y_call, y_draftType, y_draftValue, y_op, y_with, y_length, he', to', y_stack, y_position, y_cells, y_noted, y_wanted, y_formed, y_cursor, y_parked, y_where, y_often, y_due, y_many, y_found) → wpY_faulty post (y_count, y_flushed, y_calls, y_drafted, y_top, y_time, y_isCut, y_removed, y_stream, y_type, y_from, y_by, y_value, y_version, y_on, y_call, y_draftType, y_draftValue, y_op, y_with, y_length, y_height, y_torn, y_stack, y_position, y_cells, y_noted, y_wanted, y_formed, y_cursor, y_parked, y_where, y_often, y_due, y_many, y_found)) := by
  have hK0 : es_Chk n 0 (fun i => y_op (42 + i)) (fun i => y_with (42 + i)) (upd (es_fl x_metHeight (-1) 0 (n + 1)) 0 0) := by
    refine ⟨pk_us, fun j hj => ?_, fun j h => absurd h (Nat.not_lt_zero _), fun j h hj => absurd hj (Nat.not_lt_zero _)⟩
    by_cases e : j = 0
    · rw [e, pk_us]; exact Or.inr (Or.inr ⟨0, by omega, rfl⟩)
    · rw [pk_un e]
      have := es_fl_i (f := x_metHeight) (v := -1) (t := 0) (m := n + 1) (i := j) (by omega)
      rw [Nat.zero_add] at this
      exact Or.inl this
  have hC0 : es_Cr n (upd (es_fl x_metHeight (-1) 0 (n + 1)) 0 0) (upd (es_fl y_height (-1) 0 16) 0 0) (es_fl y_torn 0 0 16) := by
    intro j hj
    have t0 := es_fl_i (f := y_torn) (v := 0) (t := 0) (m := 16) (i := j) (by omega)
    rw [Nat.zero_add] at t0
    refine Or.inl ⟨t0, ?_, ?_⟩
    · by_cases e : j = 0
      · rw [e, pk_us, pk_us]
      · rw [pk_un e, pk_un e]
        have h1 := es_fl_i (f := x_metHeight) (v := -1) (t := 0) (m := n + 1) (i := j) (by omega)
        have h2 := es_fl_i (f := y_height) (v := -1) (t := 0) (m := 16) (i := j) (by omega)
        rw [Nat.zero_add] at h1 h2
        rw [h1, h2]
    · by_cases e : j = 0
      · rw [e, pk_us]; exact Or.inr ⟨0, by omega, rfl⟩
      · rw [pk_un e]
        have h2 := es_fl_i (f := y_height) (v := -1) (t := 0) (m := 16) (i := j) (by omega)
        rw [Nat.zero_add] at h2
        exact Or.inl h2
  obtain ⟨o, M', he', to', k1, k2, hX, hY⟩ := em_chk (x_ops := x_ops) (x_arguments := x_arguments) (y_op := y_op) (y_with := y_with) hn hop ho n 0 (by omega) (upd (es_fl x_metHeight (-1) 0 (n + 1)) 0 0) (upd (es_fl y_height (-1) 0 16) 0 0) (es_fl y_torn 0 0 16) hK0 hC0
  refine ⟨o, M', he', to', k1, k2, fun post hp => nm_r hlx ?_, fun post hp => nm_r hly ?_⟩
  · refine loop_0 (fun m i s => wX_firstFaulty_9 post (nI n) x_records x_removedCount x_flushed x_drafted x_height x_time x_foundAt m (nI i) x_recordStream x_recordType x_recordVersion x_recordValue x_originProjection x_originPosition x_originInstruction x_joined x_removed x_eventCount x_cutLevel x_draftType x_draftValue x_ops x_arguments x_programLength x_states x_noted x_stack s x_groupType x_cursor x_keptCursor x_parked x_rowCount x_rowPosition x_rowTimes x_rowDue) (fun i s => s = es_fl x_metHeight (-1) 0 i) (n + 1) _ es_fl_0.symm ?_ ?_
    · intro m s hs
      subst hs
      exact br_t (nI_lt (by omega) (by omega)) (nm_e ⟨_, hX post hp⟩)
    · intro m i s hi hs ih
      subst hs
      refine br_f (nI_nlt (by omega) (by omega)) ⟨vp_in_nI (by omega) (by decide), nm_r (e' := es_fl x_metHeight (-1) 0 (i + 1)) ?_ (nm_r (nI_1 _) (ih _ rfl))⟩
      rw [nI_clamp (by omega), ← es_fl_s, Nat.zero_add]
  · refine loop_0 (fun m i (s : (Nat → Int32) × (Nat → Int32)) => wY_faulty_9 post (nI n) y_count y_flushed y_calls y_drafted y_top y_time m (nI i) y_isCut y_removed y_stream y_type y_from y_by y_value y_version y_on y_call y_draftType y_draftValue y_op y_with y_length s.1 s.2 y_stack y_position y_cells y_noted y_wanted y_formed y_cursor y_parked y_where y_often y_due y_many y_found) (fun i s => s = (es_fl y_height (-1) 0 i, es_fl y_torn 0 0 i)) 16 (y_height, y_torn) (by rw [es_fl_0, es_fl_0]) ?_ ?_
    · intro m s hs
      subst hs
      exact br_t (by decide) (nm_r (e' := upd (es_fl y_height (-1) 0 16) 0 0) (by rw [es_nb_0]) ⟨_, hY post hp⟩)
    · intro m i s hi hs ih
      subst hs
      refine br_f (nI_ge (b := 16) hi (by decide)) ⟨vp_in_nI hi (by decide), nm_r (e' := es_fl y_height (-1) 0 (i + 1)) ?_ ⟨vp_in_nI hi (by decide), nm_r (e' := es_fl y_torn 0 0 (i + 1)) ?_ (nm_r (nI_1 _) (ih (_, _) rfl))⟩⟩
      · rw [nI_clamp (by omega), ← es_fl_s, Nat.zero_add, es_nbm]
      · rw [nI_clamp (by omega), ← es_fl_s, Nat.zero_add, es_nb0]
theorem es_14 (p : Nat) : nI p * 14 = nI (14 * p) := by
  rw [show (14 : Int32) = nI 14 from rfl, pk_mul, Nat.mul_comm]
theorem es_14y (p : Nat) : 14 * nI p = nI (14 * p) := by
  rw [show (14 : Int32) = nI 14 from rfl, pk_mul]
theorem ex_install {pst : SX → Prop} {p : Nat} (hp3 : p < 3)
    (hp : pst (x_records, x_removedCount, x_flushed, x_drafted, x_height, x_time, x_foundAt, x_recordStream, x_recordType, x_recordVersion, x_recordValue, x_originProjection, x_originPosition, x_originInstruction, x_joined, x_removed, x_eventCount, x_cutLevel, x_draftType, x_draftValue, es_cpy x_ops (14 * p) 42 14, es_cpy x_arguments (14 * p) 42 14, upd x_programLength p (x_programLength 3), es_cpy (upd (es_fl x_states 0 (11 * p) 11) (11 * p + 10) x_flushed) (11 * (3 + p)) (11 * p) 11, upd x_noted p 0, x_stack, x_metHeight, x_groupType, x_cursor, x_keptCursor, x_parked, x_rowCount, x_rowPosition, x_rowTimes, x_rowDue)) : wpX_install pst (x_records, x_removedCount, x_flushed, x_drafted, x_height, x_time, x_foundAt, x_recordStream, x_recordType, x_recordVersion, x_recordValue, x_originProjection, x_originPosition, x_originInstruction, x_joined, x_removed, x_eventCount, x_cutLevel, x_draftType, x_draftValue, x_ops, x_arguments, x_programLength, x_states, x_noted, x_stack, x_metHeight, x_groupType, x_cursor, x_keptCursor, x_parked, x_rowCount, x_rowPosition, x_rowTimes, x_rowDue) (nI p) := by
  refine loop_0 (fun n i (s : (Nat → Int32) × (Nat → Int32)) => wX_install_2 pst (nI p) x_records x_removedCount x_flushed x_drafted x_height x_time x_foundAt n (nI i) x_recordStream x_recordType x_recordVersion x_recordValue x_originProjection x_originPosition x_originInstruction x_joined x_removed x_eventCount x_cutLevel x_draftType x_draftValue s.1 s.2 x_programLength x_states x_noted x_stack x_metHeight x_groupType x_cursor x_keptCursor x_parked x_rowCount x_rowPosition x_rowTimes x_rowDue) (fun i s => s = (es_cpy x_ops (14 * p) 42 i, es_cpy x_arguments (14 * p) 42 i)) 14 (x_ops, x_arguments) (by rw [es_cpy_0, es_cpy_0]) ?_ ?_
  · intro n s hs
    subst hs
    refine br_t (by decide) ⟨vp_in_nI (by omega) (by decide), nm_r (e' := upd x_programLength p (x_programLength 3)) (by rw [nI_clamp (by omega)]) (ex_stateBase (m := 0) ?_)⟩
    rw [show 11 * (3 * 0 + p) = 11 * p by omega]
    refine loop_0 (fun n i s => wX_install_75 pst (nI p) (nI (11 * p)) x_records x_removedCount x_flushed x_drafted x_height x_time x_foundAt n (nI i) x_recordStream x_recordType x_recordVersion x_recordValue x_originProjection x_originPosition x_originInstruction x_joined x_removed x_eventCount x_cutLevel x_draftType x_draftValue (es_cpy x_ops (14 * p) 42 14) (es_cpy x_arguments (14 * p) 42 14) (upd x_programLength p (x_programLength 3)) s x_noted x_stack x_metHeight x_groupType x_cursor x_keptCursor x_parked x_rowCount x_rowPosition x_rowTimes x_rowDue) (fun i s => s = es_fl x_states 0 (11 * p) i) 11 _ es_fl_0.symm ?_ ?_
    · intro n s hs
      subst hs
      have e10 : nI (11 * p) + 10 = nI (11 * p + 10) := nI_add _ 10
      refine br_t (by decide) ⟨by rw [e10]; exact vp_in_nI (by omega) (by decide), nm_r (e' := upd (es_fl x_states 0 (11 * p) 11) (11 * p + 10) x_flushed) (by rw [e10, nI_clamp (by omega)]) ?_⟩
      exact ex_copyState (m1 := 0) (m2 := 1) (r1 := p) (r2 := 3 + p) (by omega) (by omega) hp3 (by omega) (by omega) (by omega) ⟨vp_in_nI hp3 (by decide), nm_r (e' := upd x_noted p 0) (by rw [nI_clamp (by omega), es_nb0]) hp⟩
    · intro n i s hi hs ih
      subst hs
      refine br_f (nI_ge (b := 11) hi (by decide)) ?_
      rw [nI_add, nI_clamp (by omega)]
      exact ⟨vp_in_nI (by omega) (by decide), nm_r es_fl_s (nm_r (nI_1 _) (ih _ rfl))⟩
  · intro n i s hi hs ih
    subst hs
    have e42 : 42 + nI i = nI (42 + i) := nI_add 42 i
    refine br_f (nI_ge (b := 14) hi (by decide)) ?_
    rw [es_14, nI_add, e42, nI_clamp (by omega), nI_clamp (by omega)]
    exact ⟨vp_in_nI (by omega) (by decide), vp_in_nI (by omega) (by decide), nm_r (es_cpy_s (by omega)) ⟨vp_in_nI (by omega) (by decide), vp_in_nI (by omega) (by decide), nm_r (es_cpy_s (by omega)) (nm_r (nI_1 _) (ih (_, _) rfl))⟩⟩
theorem ey_def {post : Int32 → SY → Prop} {p n : Nat} (hp3 : p < 3) (hn : n ≤ 14) (ho : ∀ i, i < n → ∃ o, o < 14 ∧ y_op (42 + i) = nI o)
    (hp : post 0 (y_count, y_flushed, y_calls, y_drafted, y_top, y_time, y_isCut, y_removed, y_stream, y_type, y_from, y_by, y_value, y_version, y_on, y_call, y_draftType, y_draftValue, es_cpy y_op (14 * p) 42 n, es_cpy y_with (14 * p) 42 n, y_length, y_height, y_torn, y_stack, upd (upd y_position p y_flushed) (3 + p) y_flushed, es_cpy (es_fl y_cells 0 (10 * p) 10) (10 * (3 + p)) (10 * p) 10, upd y_noted p 0, y_wanted, y_formed, y_cursor, y_parked, y_where, y_often, y_due, y_many, y_found)) : ∃ m, wY_define_58 post (nI p) (nI n) y_count y_flushed y_calls y_drafted y_top y_time m 0 y_isCut y_removed y_stream y_type y_from y_by y_value y_version y_on y_call y_draftType y_draftValue y_op y_with y_length y_height y_torn y_stack y_position y_cells y_noted y_wanted y_formed y_cursor y_parked y_where y_often y_due y_many y_found := by
  refine loop_0 (fun m i (s : (Nat → Int32) × (Nat → Int32)) => wY_define_58 post (nI p) (nI n) y_count y_flushed y_calls y_drafted y_top y_time m (nI i) y_isCut y_removed y_stream y_type y_from y_by y_value y_version y_on y_call y_draftType y_draftValue s.1 s.2 y_length y_height y_torn y_stack y_position y_cells y_noted y_wanted y_formed y_cursor y_parked y_where y_often y_due y_many y_found) (fun i s => s = (es_cpy y_op (14 * p) 42 i, es_cpy y_with (14 * p) 42 i)) n (y_op, y_with) (by rw [es_cpy_0, es_cpy_0]) ?_ ?_
  · intro m s hs
    subst hs
    refine br_t (Int32.le_refl _) ⟨vp_in_nI (by omega) (by decide), nm_r (e' := upd y_position p y_flushed) (by rw [nI_clamp (by omega)]) ?_⟩
    refine loop_0 (fun m i s => wY_define_127 post (nI p) y_count y_flushed y_calls y_drafted y_top y_time m (nI i) y_isCut y_removed y_stream y_type y_from y_by y_value y_version y_on y_call y_draftType y_draftValue (es_cpy y_op (14 * p) 42 n) (es_cpy y_with (14 * p) 42 n) y_length y_height y_torn y_stack (upd y_position p y_flushed) s y_noted y_wanted y_formed y_cursor y_parked y_where y_often y_due y_many y_found) (fun i s => s = es_fl y_cells 0 (10 * p) i) 10 _ es_fl_0.symm ?_ ?_
    · intro m s hs
      subst hs
      have e3 : 3 + nI p = nI (3 + p) := nI_add 3 p
      refine br_t (by decide) ?_
      rw [e3]
      refine ey_copyState (by omega) (by omega) (by omega) ⟨vp_in_nI hp3 (by decide), nm_r (e' := upd y_noted p 0) (by rw [nI_clamp (by omega), es_nb0]) ?_⟩
      rw [pk_us]
      exact hp
    · intro m i s hi hs ih
      subst hs
      refine br_f (nI_ge (b := 10) hi (by decide)) ?_
      rw [es_10, nI_add, nI_clamp (by omega)]
      exact ⟨vp_in_nI (by omega) (by decide), nm_r es_fl_s (nm_r (nI_1 _) (ih _ rfl))⟩
  · intro m i s hi hs ih
    subst hs
    obtain ⟨o, ho14, eo⟩ := ho i hi
    have e42 : 42 + nI i = nI (42 + i) := nI_add 42 i
    refine br_f (nI_ge hi (by omega)) ?_
    rw [es_14y, nI_add, e42, nI_clamp (by omega), nI_clamp (by omega)]
    refine ⟨vp_in_nI (by omega) (by decide), vp_in_nI (by omega) (by decide), nm_r (e' := es_cpy y_op (14 * p) 42 (i + 1)) ?_ ⟨vp_in_nI (by omega) (by decide), vp_in_nI (by omega) (by decide), nm_r (es_cpy_s (by omega)) (nm_r (nI_1 _) (ih (_, _) rfl))⟩⟩
    have e : es_cpy y_op (14 * p) 42 i (42 + i) = nI o := (es_cpy_o (by omega)).trans eo
    show upd (es_cpy y_op (14 * p) 42 i) (14 * p + i) (vp_nar .byte (es_cpy y_op (14 * p) 42 i (42 + i))) = _
    rw [← es_cpy_s (by omega), e, (es_nar o (by omega)).1]
end
end
section
section
variable {x_records x_removedCount x_flushed x_drafted x_height x_time x_foundAt : Int32} {x_recordStream x_recordType x_recordVersion x_recordValue x_originProjection x_originPosition x_originInstruction x_joined x_removed x_eventCount x_cutLevel x_draftType x_draftValue x_ops x_arguments x_programLength x_states x_noted x_stack x_metHeight x_groupType x_cursor x_keptCursor x_parked x_rowCount x_rowPosition x_rowTimes x_rowDue : Nat → Int32} {y_count y_flushed y_calls y_drafted y_top y_time : Int32} {y_isCut y_removed y_stream y_type y_from y_by y_value y_version y_on y_call y_draftType y_draftValue y_op y_with y_length y_height y_torn y_stack y_position y_cells y_noted y_wanted y_formed y_cursor y_parked y_where y_often y_due y_many y_found : Nat → Int32} {c f q : Nat} {cut rm str ty fr byi val ver onn call oi jn ec cl : Nat → Int32} {d : Nat} {L : Nat → Nat}
theorem es_St_def {st xn po ce yn : Nat → Int32} {p n : Nat} (H : es_St c f L st xn po ce yn) (hp : p < 3) (hfc : f ≤ c) :
    es_St c f (fun m => if m = 3 then 0 else if m = p then n else L m) (es_cpy (upd (es_fl st 0 (11 * p) 11) (11 * p + 10) (nI f)) (11 * (3 + p)) (11 * p) 11) (upd xn p 0) (upd (upd po p (nI f)) (3 + p) (nI f)) (es_cpy (es_fl ce 0 (10 * p) 10) (10 * (3 + p)) (10 * p) 10) (upd yn p 0) := by
  intro m hm hl
  by_cases e : m = p
  · subst e
    refine ⟨⟨⟨f, hfc, ?_, ?_⟩, fun k hk => ?_⟩, ⟨⟨f, Nat.le_refl f, ?_, pk_us⟩, fun k hk => ?_⟩, ?_, fun z => absurd pk_us z⟩
    · rw [es_cpy_o (by omega), pk_us]
    · rw [pk_un (by omega), pk_us]
    · rw [es_cpy_o (by omega), es_cpy_o (by omega), pk_un (by omega), es_fl_i (by omega), es_fl_i hk]
    · rw [es_cpy_i (by omega), pk_us]
    · rw [es_cpy_i (by omega), es_cpy_i hk, pk_un (by omega), es_fl_i (by omega), es_fl_i hk]
    · rw [pk_us, pk_us]
  · have hl' : 0 < L m := by
      simp only [if_neg (show ¬ m = 3 by omega), if_neg e] at hl
      exact hl
    obtain ⟨a1, a2, a3, a4⟩ := H m hm hl'
    have fr : ∀ b r, r ≠ p → r ≠ 3 + p → es_Eq b st po ce r → es_Eq b (es_cpy (upd (es_fl st 0 (11 * p) 11) (11 * p + 10) (nI f)) (11 * (3 + p)) (11 * p) 11) (upd (upd po p (nI f)) (3 + p) (nI f)) (es_cpy (es_fl ce 0 (10 * p) 10) (10 * (3 + p)) (10 * p) 10) r := by
      intro b r h1 h2 hE
      refine es_Eq_c hE (fun k hk => ?_) ?_ (fun k hk => ?_)
      · rw [es_cpy_o (by omega), pk_un (by omega), es_fl_o (by omega)]
      · rw [pk_un h2, pk_un h1]
      · rw [es_cpy_o (by omega), es_fl_o (by omega)]
    refine ⟨fr _ _ (by omega) (by omega) a1, fr _ _ (by omega) (by omega) a2, ?_, fun z => ?_⟩
    · rw [pk_un e, pk_un e]; exact a3
    · rw [pk_un e] at z
      exact fr _ _ (by omega) (by omega) (a4 z)
theorem i_vc_define {k : Nat} {u : SX} {v : SY} (I : i_Rel k u v) (hk : k + 4 ≤ 2048) (v1 : Int32) : wpX_define (fun r u' => wpY_define (fun r' v' => r' = r ∧ i_Rel (k + 4) u' v') v v1) u v1 := by
  obtain ⟨x_records, x_removedCount, x_flushed, x_drafted, x_height, x_time, x_foundAt, x_recordStream, x_recordType, x_recordVersion, x_recordValue, x_originProjection, x_originPosition, x_originInstruction, x_joined, x_removed, x_eventCount, x_cutLevel, x_draftType, x_draftValue, x_ops, x_arguments, x_programLength, x_states, x_noted, x_stack, x_metHeight, x_groupType, x_cursor, x_keptCursor, x_parked, x_rowCount, x_rowPosition, x_rowTimes, x_rowDue⟩ := u
  obtain ⟨y_count, y_flushed, y_calls, y_drafted, y_top, y_time, y_isCut, y_removed, y_stream, y_type, y_from, y_by, y_value, y_version, y_on, y_call, y_draftType, y_draftValue, y_op, y_with, y_length, y_height, y_torn, y_stack, y_position, y_cells, y_noted, y_wanted, y_formed, y_cursor, y_parked, y_where, y_often, y_due, y_many, y_found⟩ := v
  have J := i_up I
  obtain ⟨q, hq, c, f, d, L, hL, hD, hP, hS, hG, hF⟩ := I
  have hfc : f ≤ c := hL.2.2.2.2.2.2.2.2.2.2.2.2.2.1.2.1
  have hL0 := hL
  have hf1 := hL.2.2.1
  have hf2 := hL.2.2.2.1
  subst hf1 hf2
  obtain ⟨rfl, hlen, hop, ho3, hok⟩ := hP
  have h3 := hlen 3
  unfold wpX_define
  rcases es_rg v1 3 (by decide) with h | ⟨p, hp, rfl⟩
  · refine ex_isProj0 h (br_t rfl ?_)
    unfold wpY_define
    exact ey_outT 3 rfl h (br_f (by decide) ⟨rfl, J⟩)
  · refine ex_isProj1 hp (br_f (by decide) ?_)
    by_cases n0 : L 3 = 0
    · have z3 : y_length 3 = 0 := by rw [h3.1, n0]; rfl
      refine br_t z3 ?_
      unfold wpY_define
      exact ey_outF 3 p rfl (by decide) hp (br_t rfl (br_t z3 ⟨rfl, J⟩))
    · have z3 : ¬ y_length 3 = 0 := by rw [h3.1]; exact fun z => n0 ((es_eq0 (by omega)).mp z)
      obtain ⟨o, M', he', to', k1, k2, hX, hY⟩ := em_faulty (n := L 3) (by omega) h3.2 h3.1 h3.1 (fun i hi => hop 3 i (by omega) hi) ho3
      refine br_f z3 (hX _ ?_)
      cases o with
      | none =>
        refine br_t rfl (ex_install hp (nm_e (br_t rfl ?_)))
        unfold wpY_define
        refine ey_outF 3 p rfl (by decide) hp (br_t rfl (br_f z3 (hY _ (nm_r h3.1 (nm_r (e' := upd y_length 3 0) (by rw [es_nb_0]) (br_t (show (-1 : Int32) < 0 by decide) ⟨vp_in_nI (by omega) (by decide), nm_r (e' := upd (upd y_length 3 0) p (nI (L 3))) ?_ (ey_def hp h3.2 ho3 ⟨rfl, ?_⟩)⟩))))))
        · rw [nI_clamp (by omega), (es_nar (L 3) (by omega)).2, (es_nar (L 3) (by omega)).1]
        · rw [es_upc (by omega : (3 : Nat) ≠ p), h3.1]
          refine ⟨q, by omega, c, f, d, fun m => if m = 3 then 0 else if m = p then L 3 else L m, hL0, hD, ⟨rfl, fun m => ?_, fun m i hm hi => ?_, fun i hi => ?_, fun m hm => ?_⟩, es_St_def hS hp hfc, hG, hF⟩
          · by_cases e : m = 3
            · rw [e, pk_us]; simp only [if_pos]; exact ⟨rfl, Nat.zero_le 14⟩
            · rw [pk_un e]
              by_cases e2 : m = p
              · rw [e2, pk_us]; simp only [if_neg (show ¬ p = 3 by omega), if_pos]; exact ⟨trivial, h3.2⟩
              · rw [pk_un e2]; simp only [if_neg e, if_neg e2]; exact hlen m
          · by_cases e : m = 3
            · simp only [if_pos e] at hi; exact absurd hi (Nat.not_lt_zero _)
            · by_cases e2 : m = p
              · subst e2
                simp only [if_neg e, if_pos] at hi
                rw [es_cpy_i (by omega), es_cpy_i (by omega), es_cpy_i (by omega), es_cpy_i (by omega)]
                exact hop 3 i (by omega) hi
              · simp only [if_neg e, if_neg e2] at hi
                have := (hlen m).2
                rw [es_cpy_o (by omega), es_cpy_o (by omega), es_cpy_o (by omega), es_cpy_o (by omega)]
                exact hop m i hm hi
          · simp only [if_pos] at hi; exact absurd hi (Nat.not_lt_zero _)
          · by_cases e2 : m = p
            · subst e2
              simp only [if_neg (show ¬ m = 3 by omega), if_pos]
              exact es_OK_c (k1 rfl) (fun i hi => ⟨es_cpy_i hi, es_cpy_i hi⟩)
            · simp only [if_neg (show ¬ m = 3 by omega), if_neg e2]
              have := (hlen m).2
              exact es_OK_c (hok m hm) (fun i hi => ⟨es_cpy_o (by omega), es_cpy_o (by omega)⟩)
      | some b =>
        have hb := k2 b rfl
        have n4 : ¬ es_ox (some b) = -4 := es_nm4 (by omega)
        refine br_f n4 (nm_e (br_f n4 ?_))
        unfold wpY_define
        refine ey_outF 3 p rfl (by decide) hp (br_t rfl (br_f z3 (hY _ (nm_r h3.1 (nm_r (e' := upd y_length 3 0) (by rw [es_nb_0]) (br_f (nI_pos (n := b) (by omega)) ⟨rfl, ?_⟩))))))
        refine ⟨q, by omega, c, f, d, fun m => if m = 3 then 0 else L m, hL0, hD, ⟨rfl, fun m => ?_, fun m i hm hi => ?_, fun i hi => ?_, fun m hm => ?_⟩, es_St_L hS (fun p hp => if_neg (by omega)), hG, hF⟩
        · by_cases w : m = 3
          · rw [w, pk_us]; simp only [if_pos]; exact ⟨rfl, Nat.zero_le 14⟩
          · rw [pk_un w]; simp only [if_neg w]; exact hlen m
        · by_cases w : m = 3
          · simp only [if_pos w] at hi; exact absurd hi (Nat.not_lt_zero _)
          · simp only [if_neg w] at hi; exact hop m i hm hi
        · simp only [if_pos] at hi; exact absurd hi (Nat.not_lt_zero _)
        · simp only [if_neg (show ¬ m = 3 by omega)]; exact hok m hm
end
end
section
section
/-! an event is emitted, once -/
variable {x_records x_removedCount x_flushed x_drafted x_height x_time x_foundAt : Int32} {x_recordStream x_recordType x_recordVersion x_recordValue x_originProjection x_originPosition x_originInstruction x_joined x_removed x_eventCount x_cutLevel x_draftType x_draftValue x_ops x_arguments x_programLength x_states x_noted x_stack x_metHeight x_groupType x_cursor x_keptCursor x_parked x_rowCount x_rowPosition x_rowTimes x_rowDue : Nat → Int32} {y_count y_flushed y_calls y_drafted y_top y_time : Int32} {y_isCut y_removed y_stream y_type y_from y_by y_value y_version y_on y_call y_draftType y_draftValue y_op y_with y_length y_height y_torn y_stack y_position y_cells y_noted y_wanted y_formed y_cursor y_parked y_where y_often y_due y_many y_found : Nat → Int32} {c f q : Nat} {cut rm str ty fr byi val ver onn call oi jn ec cl : Nat → Int32} {d : Nat} {L : Nat → Nat}
theorem ex_push {pst : SX → Prop} {h : Nat} {v : Int32} (hh : h < 4) (hp : pst (x_records, x_removedCount, x_flushed, x_drafted, nI (h + 1), x_time, x_foundAt, x_recordStream, x_recordType, x_recordVersion, x_recordValue, x_originProjection, x_originPosition, x_originInstruction, x_joined, x_removed, x_eventCount, x_cutLevel, x_draftType, x_draftValue, x_ops, x_arguments, x_programLength, x_states, x_noted, upd x_stack h v, x_metHeight, x_groupType, x_cursor, x_keptCursor, x_parked, x_rowCount, x_rowPosition, x_rowTimes, x_rowDue)) : wpX_push pst (x_records, x_removedCount, x_flushed, x_drafted, nI h, x_time, x_foundAt, x_recordStream, x_recordType, x_recordVersion, x_recordValue, x_originProjection, x_originPosition, x_originInstruction, x_joined, x_removed, x_eventCount, x_cutLevel, x_draftType, x_draftValue, x_ops, x_arguments, x_programLength, x_states, x_noted, x_stack, x_metHeight, x_groupType, x_cursor, x_keptCursor, x_parked, x_rowCount, x_rowPosition, x_rowTimes, x_rowDue) v :=
  br_f (nI_ge (b := 4) hh (by decide)) ⟨vp_in_nI hh (by decide), nm_r (e' := upd x_stack h v) (by rw [nI_clamp (by omega)]) (nm_r (nI_1 _) hp)⟩
theorem ex_pop {pst : Int32 → SX → Prop} {h : Nat} (h0 : 0 < h) (hh : h ≤ 4) (hp : pst (x_stack (h - 1)) (x_records, x_removedCount, x_flushed, x_drafted, nI (h - 1), x_time, x_foundAt, x_recordStream, x_recordType, x_recordVersion, x_recordValue, x_originProjection, x_originPosition, x_originInstruction, x_joined, x_removed, x_eventCount, x_cutLevel, x_draftType, x_draftValue, x_ops, x_arguments, x_programLength, x_states, x_noted, x_stack, x_metHeight, x_groupType, x_cursor, x_keptCursor, x_parked, x_rowCount, x_rowPosition, x_rowTimes, x_rowDue)) : wpX_pop pst (x_records, x_removedCount, x_flushed, x_drafted, nI h, x_time, x_foundAt, x_recordStream, x_recordType, x_recordVersion, x_recordValue, x_originProjection, x_originPosition, x_originInstruction, x_joined, x_removed, x_eventCount, x_cutLevel, x_draftType, x_draftValue, x_ops, x_arguments, x_programLength, x_states, x_noted, x_stack, x_metHeight, x_groupType, x_cursor, x_keptCursor, x_parked, x_rowCount, x_rowPosition, x_rowTimes, x_rowDue) := by
  refine br_f (fun z => by have := (es_eq0 (by omega)).mp z; omega) (nm_r (es_s1 h0) ⟨vp_in_nI (by omega) (by decide), ?_⟩)
  rw [nI_clamp (by omega)]
  exact hp
def es_em (fr onn oi : Nat → Int32) (p a i : Nat) (k : Nat) : Prop := fr k = nI p ∧ onn k = nI a ∧ oi k = nI i
theorem ex_was {post : Int32 → Prop} {p a i : Nat} (H : es_Log c f q cut rm str ty fr byi val ver onn call oi jn ec cl) (hp3 : p < 3) (hac : a < c) (h1 : (∃ k, k < c ∧ es_em fr onn oi p a i k) → post 1) (h0 : ¬ (∃ k, k < c ∧ es_em fr onn oi p a i k) → post 0) :
    wpX_wasEmitted post (nI c, x_removedCount, nI f, x_drafted, x_height, x_time, x_foundAt, str, es_T cut ty, es_V cut ver val, es_W cut val, fr, onn, oi, jn, rm, ec, cl, x_draftType, x_draftValue, x_ops, x_arguments, x_programLength, x_states, x_noted, x_stack, x_metHeight, x_groupType, x_cursor, x_keptCursor, x_parked, x_rowCount, x_rowPosition, x_rowTimes, x_rowDue) (nI p) (nI a) (nI i) := by
  have hc := H.1.1
  have low : ∀ k, k ≤ a → ¬ es_em fr onn oi p a i k := by
    intro k hk ⟨e1, e2, e3⟩
    rcases H.2.2.2.2.2.2.2.1 k (by omega) with z | ⟨_, _, o, ho, eo⟩
    · rw [z] at e1
      exact es_m1n (by omega) e1
    · rw [eo] at e2
      have := es_inj e2 (by omega) (by omega)
      omega
  refine nm_r (nI_1 _) ?_
  refine pk_loop (fun n k (_ : Unit) => wX_wasEmitted_5 post (nI p) (nI a) (nI i) (nI c) x_removedCount (nI f) x_drafted x_height x_time x_foundAt str (es_T cut ty) (es_V cut ver val) (es_W cut val) fr onn oi jn rm ec cl x_draftType x_draftValue x_ops x_arguments x_programLength x_states x_noted x_stack x_metHeight x_groupType x_cursor x_keptCursor x_parked x_rowCount x_rowPosition x_rowTimes x_rowDue n (nI k)) (fun k _ => ∀ j, j < k → ¬ es_em fr onn oi p a i j) c (a + 1) () (by omega) (fun j hj => low j (by omega)) ?_ ?_
  · intro n _ hs
    exact br_t (Int32.le_refl _) (h0 (fun ⟨k, hk, e⟩ => hs k hk e))
  · intro n k _ hk hs ih
    have vk : vp_in (nI k) 2000 := vp_in_nI (by omega) (by decide)
    refine br_f (nI_ge hk (by omega)) ⟨vk, ?_⟩
    rw [nI_clamp (by omega)]
    exact br_c (fun z1 => ⟨vk, br_c (fun z2 => ⟨vk, br_c (fun z3 => h1 ⟨k, hk, z1, z2, z3⟩) (fun z3 => nm_r (nI_1 _) (ih () (lt_s hs (fun e => z3 e.2.2))))⟩) (fun z2 => nm_r (nI_1 _) (ih () (lt_s hs (fun e => z2 e.2.1))))⟩) (fun z1 => nm_r (nI_1 _) (ih () (lt_s hs (fun e => z1 e.1))))
theorem es_d8 {e : Nat} (h : e < 40) : nI e / 8 = nI (e / 8) ∧ nI e - nI e / 8 * 8 = nI (e % 8) :=
  ⟨pk_div (d := 8) (by omega) (by omega) (by decide), pk_rem (d := 8) (by omega) (by omega) (by decide)⟩
theorem ey_emit {post : Int32 → SY → Prop} {p a i e : Nat} {v : Int32} (H : es_Log c f q cut rm str ty fr byi val ver onn call oi jn ec cl) (hp3 : p < 3) (hi : i < 14) (he : e < 40) (hq : q + 1 < 2 ^ 31)
    (h1 : (∃ k, k < c ∧ es_em fr onn oi p a i k) → post 1 (nI c, nI f, nI q, y_drafted, y_top, y_time, cut, rm, str, ty, fr, byi, val, ver, onn, call, y_draftType, y_draftValue, y_op, y_with, y_length, y_height, y_torn, y_stack, y_position, y_cells, y_noted, y_wanted, y_formed, y_cursor, y_parked, y_where, y_often, y_due, y_many, y_found))
    (h2 : ¬ (∃ k, k < c ∧ es_em fr onn oi p a i k) → ¬ (c - es_rc rm c + 1 ≤ 40 ∧ c + 1 ≤ 2000) → post 0 (nI c, nI f, nI q, y_drafted, y_top, y_time, cut, rm, str, ty, fr, byi, val, ver, onn, call, y_draftType, y_draftValue, y_op, y_with, y_length, y_height, y_torn, y_stack, y_position, y_cells, y_noted, y_wanted, y_formed, y_cursor, y_parked, y_where, y_often, y_due, y_many, y_found))
    (h3 : ¬ (∃ k, k < c ∧ es_em fr onn oi p a i k) → c - es_rc rm c + 1 ≤ 40 → c + 1 ≤ 2000 → post 1 (nI (c + 1), nI f, nI (q + 1), y_drafted, y_top, y_time, upd cut c 0, rm, upd str c (nI (e / 8)), upd ty c (nI (e % 8)), upd fr c (nI p), upd byi c (nI i), upd val c v, upd ver c (nI (es_ev cut str (nI (e / 8)) c)), upd onn c (nI a), upd call c (nI (q + 1)), y_draftType, y_draftValue, y_op, y_with, y_length, y_height, y_torn, y_stack, y_position, y_cells, y_noted, y_wanted, y_formed, y_cursor, y_parked, y_where, y_often, y_due, y_many, y_found)) :
    wpY_emit post (nI c, nI f, nI q, y_drafted, y_top, y_time, cut, rm, str, ty, fr, byi, val, ver, onn, call, y_draftType, y_draftValue, y_op, y_with, y_length, y_height, y_torn, y_stack, y_position, y_cells, y_noted, y_wanted, y_formed, y_cursor, y_parked, y_where, y_often, y_due, y_many, y_found) (nI p) (nI a) (nI i) (nI e) v := by
  have hc := H.1.1
  have eqv : ∀ k, k < c → (es_em fr onn oi p a i k ↔ (cut k = 0 ∧ fr k = nI p ∧ onn k = nI a ∧ byi k = nI i)) := by
    intro k hk
    rcases H.2.2.2.2.2.2.2.1 k hk with z | ⟨z1, z2, _⟩
    · constructor
      · intro e; have := e.1; rw [z] at this; exact absurd this (es_m1n (by omega))
      · intro e; have := e.2.1; rw [z] at this; exact absurd this (es_m1n (by omega))
    · unfold es_em
      rw [z2]
      exact ⟨fun e => ⟨z1, e⟩, fun e => e.2⟩
  refine loop_0 (fun n k (_ : Unit) => wY_emit_3 post (nI p) (nI a) (nI i) (nI e) v (nI c) (nI f) (nI q) y_drafted y_top y_time cut rm str ty fr byi val ver onn call y_draftType y_draftValue y_op y_with y_length y_height y_torn y_stack y_position y_cells y_noted y_wanted y_formed y_cursor y_parked y_where y_often y_due y_many y_found n (nI k)) (fun k _ => ∀ j, j < k → ¬ es_em fr onn oi p a i j) c () (fun j h => absurd h (Nat.not_lt_zero _)) ?_ ?_
  · intro n _ hs
    have hno : ¬ (∃ k, k < c ∧ es_em fr onn oi p a i k) := fun ⟨k, hk, e⟩ => hs k hk e
    have hr40 := H.1.2.2
    have hrc := es_rc_le rm c
    have h4 : rm c = 0 := (H.2.2.2.2.1 c).2 H.1.2.1
    refine br_t (Int32.le_refl _) (ey_there hc ?_)
    by_cases z : c - es_rc rm c = 40
    · exact br_t (by rw [z]; rfl) (h2 hno (by omega))
    · refine br_f (fun y => z (es_inj (b := 40) y (by omega) (by decide))) ?_
      by_cases w : c = 2000
      · exact br_t (by rw [w]; rfl) (h2 hno (by omega))
      · refine br_f (fun y => w (es_inj (b := 2000) y (by omega) (by decide))) (nm_r (nI_1 _) ⟨by decide, by decide, ?_⟩)
        have hd := es_d8 he
        have hp := es_nar p (by omega)
        have hi' := es_nar i (by omega)
        rw [hd.2, hd.1]
        refine ey_add (by omega) (by omega) (by omega) es_nb0 h4 ⟨vp_in_nI (by omega) (by decide), nm_r (e' := upd fr c (nI p)) ?_ ⟨vp_in_nI (by omega) (by decide), nm_r (e' := upd onn c (nI a)) ?_ ⟨vp_in_nI (by omega) (by decide), nm_r (e' := upd byi c (nI i)) ?_ (h3 hno (by omega) (by omega))⟩⟩⟩
        · rw [nI_clamp (by omega), es_uu, hp.2, hp.1]
        · rw [nI_clamp (by omega), es_uu]
        · rw [nI_clamp (by omega), hi'.2, hi'.1]
  · intro n k _ hk hs ih
    have vk : vp_in (nI k) 2000 := vp_in_nI (by omega) (by decide)
    have ek := eqv k hk
    refine br_f (nI_ge hk (by omega)) ⟨vk, ?_⟩
    rw [nI_clamp (by omega)]
    exact br_c (fun z0 => ⟨vk, br_c (fun z1 => ⟨vk, br_c (fun z2 => ⟨vk, br_c (fun z3 => h1 ⟨k, hk, ek.mpr ⟨z0, z1, z2, z3⟩⟩) (fun z3 => nm_r (nI_1 _) (ih () (lt_s hs (fun e => z3 (ek.mp e).2.2.2))))⟩) (fun z2 => nm_r (nI_1 _) (ih () (lt_s hs (fun e => z2 (ek.mp e).2.2.1))))⟩) (fun z1 => nm_r (nI_1 _) (ih () (lt_s hs (fun e => z1 (ek.mp e).2.1))))⟩) (fun z0 => nm_r (nI_1 _) (ih () (lt_s hs (fun e => z0 (ek.mp e).1))))
theorem ex_emit {post : Int32 → SX → Prop} {p a i e h : Nat} (H : es_Log c f q cut rm str ty fr byi val ver onn call oi jn ec cl) (hp3 : p < 3) (hac : a < c) (he : e < 40) (h0 : 0 < h) (hh : h ≤ 4)
    (h1 : (∃ k, k < c ∧ es_em fr onn oi p a i k) → post 1 (nI c, nI (es_rc rm c), nI f, x_drafted, nI (h - 1), x_time, x_foundAt, str, es_T cut ty, es_V cut ver val, es_W cut val, fr, onn, oi, jn, rm, ec, cl, x_draftType, x_draftValue, x_ops, x_arguments, x_programLength, x_states, x_noted, x_stack, x_metHeight, x_groupType, x_cursor, x_keptCursor, x_parked, x_rowCount, x_rowPosition, x_rowTimes, x_rowDue))
    (h2 : ¬ (∃ k, k < c ∧ es_em fr onn oi p a i k) → ¬ (c - es_rc rm c + 1 ≤ 40 ∧ c + 1 ≤ 2000) → post 0 (nI c, nI (es_rc rm c), nI f, x_drafted, nI (h - 1), x_time, x_foundAt, str, es_T cut ty, es_V cut ver val, es_W cut val, fr, onn, oi, jn, rm, ec, cl, x_draftType, x_draftValue, x_ops, x_arguments, x_programLength, x_states, x_noted, x_stack, x_metHeight, x_groupType, x_cursor, x_keptCursor, x_parked, x_rowCount, x_rowPosition, x_rowTimes, x_rowDue))
    (h3 : ¬ (∃ k, k < c ∧ es_em fr onn oi p a i k) → c - es_rc rm c + 1 ≤ 40 → c + 1 ≤ 2000 → post 1 (nI (c + 1), nI (es_rc rm c), nI f, x_drafted, nI (h - 1), x_time, x_foundAt, upd str c (nI (e / 8)), upd (es_T cut ty) c (nI (e % 8)), upd (es_V cut ver val) c (nI (es_ev cut str (nI (e / 8)) c)), upd (es_W cut val) c (x_stack (h - 1)), upd fr c (nI p), upd onn c (nI a), upd oi c (nI i), upd jn c 0, rm, upd ec (e / 8) (ec (e / 8) + 1), cl, x_draftType, x_draftValue, x_ops, x_arguments, x_programLength, x_states, x_noted, x_stack, x_metHeight, x_groupType, x_cursor, x_keptCursor, x_parked, x_rowCount, x_rowPosition, x_rowTimes, x_rowDue)) :
    wpX_emit post (nI c, nI (es_rc rm c), nI f, x_drafted, nI h, x_time, x_foundAt, str, es_T cut ty, es_V cut ver val, es_W cut val, fr, onn, oi, jn, rm, ec, cl, x_draftType, x_draftValue, x_ops, x_arguments, x_programLength, x_states, x_noted, x_stack, x_metHeight, x_groupType, x_cursor, x_keptCursor, x_parked, x_rowCount, x_rowPosition, x_rowTimes, x_rowDue) (nI p) (nI a) (nI i) (nI e) := by
  have hc := H.1.1
  have hd := es_d8 he
  unfold wpX_emit
  refine ex_pop h0 hh ?_
  refine ex_was H hp3 hac (fun z => br_f (by decide) (h1 z)) (fun z => br_t rfl ?_)
  by_cases room : c - es_rc rm c + 1 ≤ 40 ∧ c + 1 ≤ 2000
  · refine ex_hasRoom1 (n := 1) hc room.1 room.2 (br_f (by decide) ⟨by decide, nm_r hd.1 ⟨by decide, vp_in_nI (by omega) (by decide), ?_⟩⟩)
    have hec : ec (e / 8) = nI (es_ev cut str (nI (e / 8)) c) := H.2.2.2.2.2.1 (e / 8) (by omega)
    have hx := h3 z room.1 room.2
    rw [nI_clamp (by omega), hd.2, hec]
    rw [hec] at hx
    refine ex_addE (by omega) (by omega) (by omega) ?_
    have e1 : nI (c + 1) - 1 = nI c := nI_pred c
    dsimp only
    rw [e1, nI_clamp (by omega)]
    refine ⟨vp_in_nI (by omega) (by decide), nm_r (e' := upd fr c (nI p)) es_uu ⟨vp_in_nI (by omega) (by decide), nm_r (e' := upd onn c (nI a)) es_uu ⟨vp_in_nI (by omega) (by decide), nm_r (e' := upd oi c (nI i)) es_uu ?_⟩⟩⟩
    rw [hec]
    exact hx
  · exact ex_hasRoom0 (n := 1) hc (by omega) room (br_t rfl (h2 z room))
end
end
section
section
/-! one instruction, on both sides -/
variable {x_records x_removedCount x_flushed x_drafted x_height x_time x_foundAt : Int32} {x_recordStream x_recordType x_recordVersion x_recordValue x_originProjection x_originPosition x_originInstruction x_joined x_removed x_eventCount x_cutLevel x_draftType x_draftValue x_ops x_arguments x_programLength x_states x_noted x_stack x_metHeight x_groupType x_cursor x_keptCursor x_parked x_rowCount x_rowPosition x_rowTimes x_rowDue : Nat → Int32} {y_count y_flushed y_calls y_drafted y_top y_time : Int32} {y_isCut y_removed y_stream y_type y_from y_by y_value y_version y_on y_call y_draftType y_draftValue y_op y_with y_length y_height y_torn y_stack y_position y_cells y_noted y_wanted y_formed y_cursor y_parked y_where y_often y_due y_many y_found : Nat → Int32} {c f q : Nat} {cut rm str ty fr byi val ver onn call oi jn ec cl : Nat → Int32} {d : Nat} {L : Nat → Nat}
def es_Rn (f d : Nat) (L : Nat → Nat) (p a s : Nat) (old : Nat → Int32) (Pg : (Nat → Int32) → (Nat → Int32) → Prop) (D h c q : Nat) (u : SX) (v : SY) : Prop :=
  es_Q c f d L q u v ∧ q + 2000 = c + D ∧ match u with | (x_records, x_removedCount, x_flushed, x_drafted, x_height, x_time, x_foundAt, x_recordStream, x_recordType, x_recordVersion, x_recordValue, x_originProjection, x_originPosition, x_originInstruction, x_joined, x_removed, x_eventCount, x_cutLevel, x_draftType, x_draftValue, x_ops, x_arguments, x_programLength, x_states, x_noted, x_stack, x_metHeight, x_groupType, x_cursor, x_keptCursor, x_parked, x_rowCount, x_rowPosition, x_rowTimes, x_rowDue) => match v with | (y_count, y_flushed, y_calls, y_drafted, y_top, y_time, y_isCut, y_removed, y_stream, y_type, y_from, y_by, y_value, y_version, y_on, y_call, y_draftType, y_draftValue, y_op, y_with, y_length, y_height, y_torn, y_stack, y_position, y_cells, y_noted, y_wanted, y_formed, y_cursor, y_parked, y_where, y_often, y_due, y_many, y_found) => x_height = nI h ∧ y_top = nI h ∧ (∀ j, j < h → x_stack j = y_stack j) ∧
    (∀ k, k < 10 → y_cells (90 + k) = old k) ∧ (∀ k, k < 10 → k ≠ 2 * s → k ≠ 2 * s + 1 → x_states (11 * p + k) = old k) ∧ (x_states (11 * p + 10) = nI a) ∧ (a < c) ∧ (y_isCut a = 0) ∧ (y_stream a = nI s) ∧ (Pg y_op y_with)
variable {p a s n i o D h : Nat} {old : Nat → Int32} {Pg : (Nat → Int32) → (Nat → Int32) → Prop} {cc : Int32}
theorem ex_preC {post : Int32 → SX → Prop} {n5 x5 : Nat} (hp3 : p < 3) (hn : n ≤ 14) (hpl : x_programLength p = nI n) (hi : i < n) (h5 : x5 < 14) (ho : x_ops (14 * p + i) = nI o) (hcc : x_arguments (14 * p + i) = cc) (hc : o < 4 ∨ o = 8 ∨ o = 9)
    (hp : wpX_compute (fun u => match u with | (x_records, x_removedCount, x_flushed, x_drafted, x_height, x_time, x_foundAt, x_recordStream, x_recordType, x_recordVersion, x_recordValue, x_originProjection, x_originPosition, x_originInstruction, x_joined, x_removed, x_eventCount, x_cutLevel, x_draftType, x_draftValue, x_ops, x_arguments, x_programLength, x_states, x_noted, x_stack, x_metHeight, x_groupType, x_cursor, x_keptCursor, x_parked, x_rowCount, x_rowPosition, x_rowTimes, x_rowDue) => ∀ x5' : Int32, x5' = nI x5 + 1 → wX_run_11 post (nI p) (nI a) (nI (11 * p + 2 * s)) n5 (nI (i + 1)) x5' x_records x_removedCount x_flushed x_drafted x_height x_time x_foundAt x_recordStream x_recordType x_recordVersion x_recordValue x_originProjection x_originPosition x_originInstruction x_joined x_removed x_eventCount x_cutLevel x_draftType x_draftValue x_ops x_arguments x_programLength x_states x_noted x_stack x_metHeight x_groupType x_cursor x_keptCursor x_parked x_rowCount x_rowPosition x_rowTimes x_rowDue) (x_records, x_removedCount, x_flushed, x_drafted, x_height, x_time, x_foundAt, x_recordStream, x_recordType, x_recordVersion, x_recordValue, x_originProjection, x_originPosition, x_originInstruction, x_joined, x_removed, x_eventCount, x_cutLevel, x_draftType, x_draftValue, x_ops, x_arguments, x_programLength, x_states, x_noted, x_stack, x_metHeight, x_groupType, x_cursor, x_keptCursor, x_parked, x_rowCount, x_rowPosition, x_rowTimes, x_rowDue) (nI o) cc (nI a) (nI (11 * p + 2 * s))) :
    wX_run_11 post (nI p) (nI a) (nI (11 * p + 2 * s)) (n5 + 1) (nI i) (nI x5) x_records x_removedCount x_flushed x_drafted x_height x_time x_foundAt x_recordStream x_recordType x_recordVersion x_recordValue x_originProjection x_originPosition x_originInstruction x_joined x_removed x_eventCount x_cutLevel x_draftType x_draftValue x_ops x_arguments x_programLength x_states x_noted x_stack x_metHeight x_groupType x_cursor x_keptCursor x_parked x_rowCount x_rowPosition x_rowTimes x_rowDue := by
  have e14 : nI p * 14 + nI i = nI (14 * p + i) := by rw [es_14, nI_add]
  have v14 : vp_in (nI p * 14 + nI i) 56 := by rw [e14]; exact vp_in_nI (by omega) (by decide)
  have c14 : (nI p * 14 + nI i).toNatClampNeg = 14 * p + i := by rw [e14, nI_clamp (by omega)]
  have cp : (nI p).toNatClampNeg = p := nI_clamp (by omega)
  refine br_f (nI_ge (b := 14) h5 (by decide)) ⟨vp_in_nI (by omega) (by decide), br_f (by rw [cp, hpl]; exact nI_ge hi (by omega)) ⟨v14, nm_r (e' := nI o) (by rw [c14, ho]) ⟨v14, nm_r (e' := cc) (by rw [c14, hcc]) (nm_r (nI_1 i) ?_)⟩⟩⟩
  refine br_f (fun z => by have := es_inj (b := 13) z (by omega) (by decide); omega) (br_f (fun z => by have := es_inj (b := 11) z (by omega) (by decide); omega) (br_f (fun z => by have := es_inj (b := 10) z (by omega) (by decide); omega) (br_f (fun z => by have := es_inj (b := 12) z (by omega) (by decide); omega) ?_)))
  by_cases z : o < 4
  · exact br_t (nI_lt (b := 4) z (by decide)) hp
  · exact br_f (nI_nlt (b := 4) (by omega) (by omega)) (br_t (nI_lt (a := 7) (by omega) (by omega)) hp)
theorem ex_preB {post : Int32 → SX → Prop} {n5 x5 : Nat} (hp3 : p < 3) (hn : n ≤ 14) (hpl : x_programLength p = nI n) (hi : i < n) (h5 : x5 < 14) (ho : x_ops (14 * p + i) = nI o) (hcc : x_arguments (14 * p + i) = cc) (hc : 4 ≤ o ∧ o < 8)
    (hp : wpX_combine (fun u => match u with | (x_records, x_removedCount, x_flushed, x_drafted, x_height, x_time, x_foundAt, x_recordStream, x_recordType, x_recordVersion, x_recordValue, x_originProjection, x_originPosition, x_originInstruction, x_joined, x_removed, x_eventCount, x_cutLevel, x_draftType, x_draftValue, x_ops, x_arguments, x_programLength, x_states, x_noted, x_stack, x_metHeight, x_groupType, x_cursor, x_keptCursor, x_parked, x_rowCount, x_rowPosition, x_rowTimes, x_rowDue) => ∀ x5' : Int32, x5' = nI x5 + 1 → wX_run_11 post (nI p) (nI a) (nI (11 * p + 2 * s)) n5 (nI (i + 1)) x5' x_records x_removedCount x_flushed x_drafted x_height x_time x_foundAt x_recordStream x_recordType x_recordVersion x_recordValue x_originProjection x_originPosition x_originInstruction x_joined x_removed x_eventCount x_cutLevel x_draftType x_draftValue x_ops x_arguments x_programLength x_states x_noted x_stack x_metHeight x_groupType x_cursor x_keptCursor x_parked x_rowCount x_rowPosition x_rowTimes x_rowDue) (x_records, x_removedCount, x_flushed, x_drafted, x_height, x_time, x_foundAt, x_recordStream, x_recordType, x_recordVersion, x_recordValue, x_originProjection, x_originPosition, x_originInstruction, x_joined, x_removed, x_eventCount, x_cutLevel, x_draftType, x_draftValue, x_ops, x_arguments, x_programLength, x_states, x_noted, x_stack, x_metHeight, x_groupType, x_cursor, x_keptCursor, x_parked, x_rowCount, x_rowPosition, x_rowTimes, x_rowDue) (nI o)) :
    wX_run_11 post (nI p) (nI a) (nI (11 * p + 2 * s)) (n5 + 1) (nI i) (nI x5) x_records x_removedCount x_flushed x_drafted x_height x_time x_foundAt x_recordStream x_recordType x_recordVersion x_recordValue x_originProjection x_originPosition x_originInstruction x_joined x_removed x_eventCount x_cutLevel x_draftType x_draftValue x_ops x_arguments x_programLength x_states x_noted x_stack x_metHeight x_groupType x_cursor x_keptCursor x_parked x_rowCount x_rowPosition x_rowTimes x_rowDue := by
  have e14 : nI p * 14 + nI i = nI (14 * p + i) := by rw [es_14, nI_add]
  have v14 : vp_in (nI p * 14 + nI i) 56 := by rw [e14]; exact vp_in_nI (by omega) (by decide)
  have c14 : (nI p * 14 + nI i).toNatClampNeg = 14 * p + i := by rw [e14, nI_clamp (by omega)]
  have cp : (nI p).toNatClampNeg = p := nI_clamp (by omega)
  refine br_f (nI_ge (b := 14) h5 (by decide)) ⟨vp_in_nI (by omega) (by decide), br_f (by rw [cp, hpl]; exact nI_ge hi (by omega)) ⟨v14, nm_r (e' := nI o) (by rw [c14, ho]) ⟨v14, nm_r (e' := cc) (by rw [c14, hcc]) (nm_r (nI_1 i) ?_)⟩⟩⟩
  refine br_f (fun z => by have := es_inj (b := 13) z (by omega) (by decide); omega) (br_f (fun z => by have := es_inj (b := 11) z (by omega) (by decide); omega) (br_f (fun z => by have := es_inj (b := 10) z (by omega) (by decide); omega) (br_f (fun z => by have := es_inj (b := 12) z (by omega) (by decide); omega) ?_)))
  exact br_f (nI_nlt (b := 4) (by omega) (by omega)) (br_f (nI_nlt (a := 7) (by omega) (by omega)) hp)
theorem ey_pre {post : Int32 → SY → Prop} {n5 : Nat} (hp3 : p < 3) (hn : n ≤ 14) (hpl : y_length p = nI n) (hi : i < n) (ho14 : o < 14) (ho : y_op (14 * p + i) = nI o) (hcc : y_with (14 * p + i) = cc) (h12 : o ≠ 12) (h13 : o ≠ 13)
    (hp : wpY_step (fun r u => match u with | (y_count, y_flushed, y_calls, y_drafted, y_top, y_time, y_isCut, y_removed, y_stream, y_type, y_from, y_by, y_value, y_version, y_on, y_call, y_draftType, y_draftValue, y_op, y_with, y_length, y_height, y_torn, y_stack, y_position, y_cells, y_noted, y_wanted, y_formed, y_cursor, y_parked, y_where, y_often, y_due, y_many, y_found) => wY_fold_17 post (nI p) (nI a) n5 r y_count y_flushed y_calls y_drafted y_top y_time y_isCut y_removed y_stream y_type y_from y_by y_value y_version y_on y_call y_draftType y_draftValue y_op y_with y_length y_height y_torn y_stack y_position y_cells y_noted y_wanted y_formed y_cursor y_parked y_where y_often y_due y_many y_found) (y_count, y_flushed, y_calls, y_drafted, y_top, y_time, y_isCut, y_removed, y_stream, y_type, y_from, y_by, y_value, y_version, y_on, y_call, y_draftType, y_draftValue, y_op, y_with, y_length, y_height, y_torn, y_stack, y_position, y_cells, y_noted, y_wanted, y_formed, y_cursor, y_parked, y_where, y_often, y_due, y_many, y_found) (nI p) (nI a) (nI o) cc (nI i)) : wY_fold_17 post (nI p) (nI a) (n5 + 1) (nI i) y_count y_flushed y_calls y_drafted y_top y_time y_isCut y_removed y_stream y_type y_from y_by y_value y_version y_on y_call y_draftType y_draftValue y_op y_with y_length y_height y_torn y_stack y_position y_cells y_noted y_wanted y_formed y_cursor y_parked y_where y_often y_due y_many y_found := by
  have cp : (nI p).toNatClampNeg = p := nI_clamp (by omega)
  have v56 : vp_in (nI (14 * p + i)) 56 := vp_in_nI (by omega) (by decide)
  refine ⟨vp_in_nI (by omega) (by decide), br_f (by rw [cp, hpl]; exact nI_ge hi (by omega)) (nm_r (e' := nI (14 * p + i)) (by rw [es_14y, nI_add]) ⟨v56, ?_⟩)⟩
  rw [nI_clamp (by omega), ho, hcc]
  exact br_f (fun z => h13 (es_inj (b := 13) z (by omega) (by decide))) ⟨v56, br_f (fun z => h12 (es_inj (b := 12) z (by omega) (by decide))) ⟨v56, v56, hp⟩⟩
/-- what a step leaves: where it goes on, and how both get there -/
def es_Sp (f d : Nat) (L : Nat → Nat) (p a s : Nat) (old : Nat → Int32) (Pg : (Nat → Int32) → (Nat → Int32) → Prop) (D h' c q n i o : Nat) (cc : Int32) (u : SX) (v : SY) : Prop :=
  ∃ (i' : Nat) (u' : SX) (v' : SY), es_Rn f d L p a s old Pg D h' c q u' v' ∧ ((i' = i + 1 ∧ o ≠ 11) ∨ ((o = 10 ∨ o = 11) ∧ cc = nI i' ∧ i < i' ∧ i' ≤ n)) ∧
    (∀ (post : Int32 → SX → Prop) (n5 x5 : Nat), x5 < 14 → (match u' with | (x_records, x_removedCount, x_flushed, x_drafted, x_height, x_time, x_foundAt, x_recordStream, x_recordType, x_recordVersion, x_recordValue, x_originProjection, x_originPosition, x_originInstruction, x_joined, x_removed, x_eventCount, x_cutLevel, x_draftType, x_draftValue, x_ops, x_arguments, x_programLength, x_states, x_noted, x_stack, x_metHeight, x_groupType, x_cursor, x_keptCursor, x_parked, x_rowCount, x_rowPosition, x_rowTimes, x_rowDue) => wX_run_11 post (nI p) (nI a) (nI (11 * p + 2 * s)) n5 (nI i') (nI (x5 + 1)) x_records x_removedCount x_flushed x_drafted x_height x_time x_foundAt x_recordStream x_recordType x_recordVersion x_recordValue x_originProjection x_originPosition x_originInstruction x_joined x_removed x_eventCount x_cutLevel x_draftType x_draftValue x_ops x_arguments x_programLength x_states x_noted x_stack x_metHeight x_groupType x_cursor x_keptCursor x_parked x_rowCount x_rowPosition x_rowTimes x_rowDue) → match u with | (x_records, x_removedCount, x_flushed, x_drafted, x_height, x_time, x_foundAt, x_recordStream, x_recordType, x_recordVersion, x_recordValue, x_originProjection, x_originPosition, x_originInstruction, x_joined, x_removed, x_eventCount, x_cutLevel, x_draftType, x_draftValue, x_ops, x_arguments, x_programLength, x_states, x_noted, x_stack, x_metHeight, x_groupType, x_cursor, x_keptCursor, x_parked, x_rowCount, x_rowPosition, x_rowTimes, x_rowDue) => wX_run_11 post (nI p) (nI a) (nI (11 * p + 2 * s)) (n5 + 1) (nI i) (nI x5) x_records x_removedCount x_flushed x_drafted x_height x_time x_foundAt x_recordStream x_recordType x_recordVersion x_recordValue x_originProjection x_originPosition x_originInstruction x_joined x_removed x_eventCount x_cutLevel x_draftType x_draftValue x_ops x_arguments x_programLength x_states x_noted x_stack x_metHeight x_groupType x_cursor x_keptCursor x_parked x_rowCount x_rowPosition x_rowTimes x_rowDue) ∧
    (∀ (post : Int32 → SY → Prop) (n5 : Nat), (match v' with | (y_count, y_flushed, y_calls, y_drafted, y_top, y_time, y_isCut, y_removed, y_stream, y_type, y_from, y_by, y_value, y_version, y_on, y_call, y_draftType, y_draftValue, y_op, y_with, y_length, y_height, y_torn, y_stack, y_position, y_cells, y_noted, y_wanted, y_formed, y_cursor, y_parked, y_where, y_often, y_due, y_many, y_found) => wY_fold_17 post (nI p) (nI a) n5 (nI i') y_count y_flushed y_calls y_drafted y_top y_time y_isCut y_removed y_stream y_type y_from y_by y_value y_version y_on y_call y_draftType y_draftValue y_op y_with y_length y_height y_torn y_stack y_position y_cells y_noted y_wanted y_formed y_cursor y_parked y_where y_often y_due y_many y_found) → match v with | (y_count, y_flushed, y_calls, y_drafted, y_top, y_time, y_isCut, y_removed, y_stream, y_type, y_from, y_by, y_value, y_version, y_on, y_call, y_draftType, y_draftValue, y_op, y_with, y_length, y_height, y_torn, y_stack, y_position, y_cells, y_noted, y_wanted, y_formed, y_cursor, y_parked, y_where, y_often, y_due, y_many, y_found) => wY_fold_17 post (nI p) (nI a) (n5 + 1) (nI i) y_count y_flushed y_calls y_drafted y_top y_time y_isCut y_removed y_stream y_type y_from y_by y_value y_version y_on y_call y_draftType y_draftValue y_op y_with y_length y_height y_torn y_stack y_position y_cells y_noted y_wanted y_formed y_cursor y_parked y_where y_often y_due y_many y_found)
/-- the values that an instruction pushes are the same -/
theorem em_push (H : es_Rn f d L p a s old Pg D h c q (x_records, x_removedCount, x_flushed, x_drafted, nI h, x_time, x_foundAt, x_recordStream, x_recordType, x_recordVersion, x_recordValue, x_originProjection, x_originPosition, x_originInstruction, x_joined, x_removed, x_eventCount, x_cutLevel, x_draftType, x_draftValue, x_ops, x_arguments, x_programLength, x_states, x_noted, x_stack, x_metHeight, x_groupType, x_cursor, x_keptCursor, x_parked, x_rowCount, x_rowPosition, x_rowTimes, x_rowDue) (y_count, y_flushed, y_calls, y_drafted, nI h, y_time, y_isCut, y_removed, y_stream, y_type, y_from, y_by, y_value, y_version, y_on, y_call, y_draftType, y_draftValue, y_op, y_with, y_length, y_height, y_torn, y_stack, y_position, y_cells, y_noted, y_wanted, y_formed, y_cursor, y_parked, y_where, y_often, y_due, y_many, y_found)) (hp3 : p < 3) (hs5 : s < 5) (hL : 0 < L p) (hi : i < L p) (hh : h < 4) (ho : y_op (14 * p + i) = nI o) (hcc : y_with (14 * p + i) = cc) (ho4 : o < 4) (hfit : es_fit o cc i (L p)) :
    es_Sp f d L p a s old Pg D (h + 1) c q (L p) i o cc (x_records, x_removedCount, x_flushed, x_drafted, nI h, x_time, x_foundAt, x_recordStream, x_recordType, x_recordVersion, x_recordValue, x_originProjection, x_originPosition, x_originInstruction, x_joined, x_removed, x_eventCount, x_cutLevel, x_draftType, x_draftValue, x_ops, x_arguments, x_programLength, x_states, x_noted, x_stack, x_metHeight, x_groupType, x_cursor, x_keptCursor, x_parked, x_rowCount, x_rowPosition, x_rowTimes, x_rowDue) (y_count, y_flushed, y_calls, y_drafted, nI h, y_time, y_isCut, y_removed, y_stream, y_type, y_from, y_by, y_value, y_version, y_on, y_call, y_draftType, y_draftValue, y_op, y_with, y_length, y_height, y_torn, y_stack, y_position, y_cells, y_noted, y_wanted, y_formed, y_cursor, y_parked, y_where, y_often, y_due, y_many, y_found) := by
  obtain ⟨⟨hLg, hD, hP, hS, hG, hF⟩, hq, _, _, hst, hsv, hot, hpo, hac, hcut, hstr, hpg⟩ := H
  have hl := hLg.2.2.2.2.2.2.2.2.2.2.2.2.2
  have hc2 : c ≤ 2000 := hl.1.1
  have hlen := hP.2.1 p
  have hoa := hP.2.2.1 p i (by omega) hi
  have hxl : x_programLength p = nI (L p) := by rw [← hP.1]; exact hlen.1
  have ca : (nI a).toNatClampNeg = a := nI_clamp (by omega)
  have va : vp_in (nI a) 2000 := vp_in_nI (by omega) (by decide)
  have vh : vp_in (nI h) 8 := vp_in_nI (by omega) (by decide)
  have chh : (nI h).toNatClampNeg = h := nI_clamp (by omega)
  -- a value on both stacks
  have go : ∀ v : Int32, (∀ (pst : SX → Prop), pst (x_records, x_removedCount, x_flushed, x_drafted, nI (h + 1), x_time, x_foundAt, x_recordStream, x_recordType, x_recordVersion, x_recordValue, x_originProjection, x_originPosition, x_originInstruction, x_joined, x_removed, x_eventCount, x_cutLevel, x_draftType, x_draftValue, x_ops, x_arguments, x_programLength, x_states, x_noted, upd x_stack h v, x_metHeight, x_groupType, x_cursor, x_keptCursor, x_parked, x_rowCount, x_rowPosition, x_rowTimes, x_rowDue) → wpX_compute pst (x_records, x_removedCount, x_flushed, x_drafted, nI h, x_time, x_foundAt, x_recordStream, x_recordType, x_recordVersion, x_recordValue, x_originProjection, x_originPosition, x_originInstruction, x_joined, x_removed, x_eventCount, x_cutLevel, x_draftType, x_draftValue, x_ops, x_arguments, x_programLength, x_states, x_noted, x_stack, x_metHeight, x_groupType, x_cursor, x_keptCursor, x_parked, x_rowCount, x_rowPosition, x_rowTimes, x_rowDue) (nI o) cc (nI a) (nI (11 * p + 2 * s))) → (∀ pst : Int32 → SY → Prop, pst (nI (i + 1)) (y_count, y_flushed, y_calls, y_drafted, nI (h + 1), y_time, y_isCut, y_removed, y_stream, y_type, y_from, y_by, y_value, y_version, y_on, y_call, y_draftType, y_draftValue, y_op, y_with, y_length, y_height, y_torn, upd y_stack h v, y_position, y_cells, y_noted, y_wanted, y_formed, y_cursor, y_parked, y_where, y_often, y_due, y_many, y_found) → wpY_step pst (y_count, y_flushed, y_calls, y_drafted, nI h, y_time, y_isCut, y_removed, y_stream, y_type, y_from, y_by, y_value, y_version, y_on, y_call, y_draftType, y_draftValue, y_op, y_with, y_length, y_height, y_torn, y_stack, y_position, y_cells, y_noted, y_wanted, y_formed, y_cursor, y_parked, y_where, y_often, y_due, y_many, y_found) (nI p) (nI a) (nI o) cc (nI i)) →
      es_Sp f d L p a s old Pg D (h + 1) c q (L p) i o cc (x_records, x_removedCount, x_flushed, x_drafted, nI h, x_time, x_foundAt, x_recordStream, x_recordType, x_recordVersion, x_recordValue, x_originProjection, x_originPosition, x_originInstruction, x_joined, x_removed, x_eventCount, x_cutLevel, x_draftType, x_draftValue, x_ops, x_arguments, x_programLength, x_states, x_noted, x_stack, x_metHeight, x_groupType, x_cursor, x_keptCursor, x_parked, x_rowCount, x_rowPosition, x_rowTimes, x_rowDue) (y_count, y_flushed, y_calls, y_drafted, nI h, y_time, y_isCut, y_removed, y_stream, y_type, y_from, y_by, y_value, y_version, y_on, y_call, y_draftType, y_draftValue, y_op, y_with, y_length, y_height, y_torn, y_stack, y_position, y_cells, y_noted, y_wanted, y_formed, y_cursor, y_parked, y_where, y_often, y_due, y_many, y_found) := by
    intro v hX hY
    refine ⟨i + 1, (x_records, x_removedCount, x_flushed, x_drafted, nI (h + 1), x_time, x_foundAt, x_recordStream, x_recordType, x_recordVersion, x_recordValue, x_originProjection, x_originPosition, x_originInstruction, x_joined, x_removed, x_eventCount, x_cutLevel, x_draftType, x_draftValue, x_ops, x_arguments, x_programLength, x_states, x_noted, upd x_stack h v, x_metHeight, x_groupType, x_cursor, x_keptCursor, x_parked, x_rowCount, x_rowPosition, x_rowTimes, x_rowDue), (y_count, y_flushed, y_calls, y_drafted, nI (h + 1), y_time, y_isCut, y_removed, y_stream, y_type, y_from, y_by, y_value, y_version, y_on, y_call, y_draftType, y_draftValue, y_op, y_with, y_length, y_height, y_torn, upd y_stack h v, y_position, y_cells, y_noted, y_wanted, y_formed, y_cursor, y_parked, y_where, y_often, y_due, y_many, y_found), ⟨⟨hLg, hD, hP, hS, hG, hF⟩, hq, rfl, rfl, fun j hj => ?_, hsv, hot, hpo, hac, hcut, hstr, hpg⟩, Or.inl ⟨rfl, by omega⟩, fun post n5 x5 h5 hr => ?_, fun post n5 hr => ?_⟩
    · by_cases e : j = h
      · rw [e, pk_us, pk_us]
      · rw [pk_un e, pk_un e]; exact hst j (by omega)
    · exact ex_preC hp3 hlen.2 hxl hi h5 (hoa.1.trans ho) (hoa.2.trans hcc) (Or.inl ho4) (hX _ (nm_r (nI_1 _) hr))
    · exact ey_pre hp3 hlen.2 hlen.1 hi (by omega) ho hcc (by omega) (by omega) (hY _ hr)
  have hcases : o = 0 ∨ o = 1 ∨ o = 2 ∨ o = 3 := by omega
  rcases hcases with e | e | e | e <;> subst e
  · refine go cc (fun pst hr => br_f (by decide) (br_f (by decide) (br_t rfl (ex_push hh hr)))) (fun pst hr => ⟨va, nm_e (br_f (by decide) (br_f (by decide) (br_t rfl (nm_r (nI_1 h) ⟨vh, nm_r (e' := upd y_stack h cc) (by rw [chh]) ?_⟩))))⟩)
    rw [nI_1 i]; exact hr
  · refine go (y_value a) (fun pst hr => br_f (by decide) (br_f (by decide) (br_f (by decide) (br_t rfl ⟨va, ?_⟩)))) (fun pst hr => ⟨va, nm_e (br_f (by decide) (br_f (by decide) (br_f (by decide) (br_t rfl (nm_r (nI_1 h) ⟨va, vh, nm_r (e' := upd y_stack h (y_value a)) (by rw [chh, ca]) ?_⟩)))))⟩)
    · have e : x_recordValue (nI a).toNatClampNeg = y_value a := by rw [ca, hLg.2.2.2.2.2.2.2.2.2.1, es_W0 hcut]
      rw [e]
      exact ex_push hh hr
    · rw [nI_1 i]; exact hr
  · refine go (y_type a) (fun pst hr => br_f (by decide) (br_f (by decide) (br_f (by decide) (br_f (by decide) (br_t rfl ⟨va, ?_⟩))))) (fun pst hr => ⟨va, nm_e (br_f (by decide) (br_f (by decide) (br_f (by decide) (br_f (by decide) (br_t rfl (nm_r (nI_1 h) ⟨va, vh, nm_r (e' := upd y_stack h (y_type a)) (by rw [chh, ca]) ?_⟩))))))⟩)
    · have e : x_recordType (nI a).toNatClampNeg = y_type a := by rw [ca, hLg.2.2.2.2.2.2.2.1, es_T0 hcut]
      rw [e]
      exact ex_push hh hr
    · rw [nI_1 i]; exact hr
  · obtain ⟨t, ht, et⟩ := (es_fit_c (Or.inl rfl)).mp hfit
    have hE := (hS p hp3 hL).1.2 (2 * s + t) (by omega)
    have e1 : nI (11 * p + 2 * s) + cc = nI (11 * p + (2 * s + t)) := by rw [et, nI_add, Nat.add_assoc]
    have e2 : 10 * nI p + 2 * y_stream (nI a).toNatClampNeg + cc = nI (10 * p + (2 * s + t)) := by
      rw [ca, hstr, et, es_10, show (2 : Int32) = nI 2 from rfl, pk_mul, nI_add, nI_add]; congr 1; omega
    refine go (x_states (11 * p + (2 * s + t))) (fun pst hr => br_f (by decide) (br_f (by decide) (br_f (by decide) (br_f (by decide) (br_f (by decide) (br_t rfl ?_)))))) (fun pst hr => ⟨va, nm_r e2 (br_f (by decide) (br_f (by decide) (br_f (by decide) (br_f (by decide) (br_f (by decide) (br_t rfl (nm_r (nI_1 h) ⟨vp_in_nI (by omega) (by decide), vh, nm_r (e' := upd y_stack h (x_states (11 * p + (2 * s + t)))) (by rw [chh, nI_clamp (by omega), hE]) ?_⟩)))))))⟩)
    · rw [e1, nI_clamp (by omega)]
      exact ⟨vp_in_nI (by omega) (by decide), ex_push hh hr⟩
    · rw [nI_1 i]; exact hr
end
end
section
section
variable {x_records x_removedCount x_flushed x_drafted x_height x_time x_foundAt : Int32} {x_recordStream x_recordType x_recordVersion x_recordValue x_originProjection x_originPosition x_originInstruction x_joined x_removed x_eventCount x_cutLevel x_draftType x_draftValue x_ops x_arguments x_programLength x_states x_noted x_stack x_metHeight x_groupType x_cursor x_keptCursor x_parked x_rowCount x_rowPosition x_rowTimes x_rowDue : Nat → Int32} {y_count y_flushed y_calls y_drafted y_top y_time : Int32} {y_isCut y_removed y_stream y_type y_from y_by y_value y_version y_on y_call y_draftType y_draftValue y_op y_with y_length y_height y_torn y_stack y_position y_cells y_noted y_wanted y_formed y_cursor y_parked y_where y_often y_due y_many y_found : Nat → Int32} {c f q : Nat} {cut rm str ty fr byi val ver onn call oi jn ec cl : Nat → Int32} {d : Nat} {L : Nat → Nat} {p a s n i o D h : Nat} {old : Nat → Int32} {Pg : (Nat → Int32) → (Nat → Int32) → Prop} {cc : Int32}
theorem em_dup (H : es_Rn f d L p a s old Pg D h c q (x_records, x_removedCount, x_flushed, x_drafted, nI h, x_time, x_foundAt, x_recordStream, x_recordType, x_recordVersion, x_recordValue, x_originProjection, x_originPosition, x_originInstruction, x_joined, x_removed, x_eventCount, x_cutLevel, x_draftType, x_draftValue, x_ops, x_arguments, x_programLength, x_states, x_noted, x_stack, x_metHeight, x_groupType, x_cursor, x_keptCursor, x_parked, x_rowCount, x_rowPosition, x_rowTimes, x_rowDue) (y_count, y_flushed, y_calls, y_drafted, nI h, y_time, y_isCut, y_removed, y_stream, y_type, y_from, y_by, y_value, y_version, y_on, y_call, y_draftType, y_draftValue, y_op, y_with, y_length, y_height, y_torn, y_stack, y_position, y_cells, y_noted, y_wanted, y_formed, y_cursor, y_parked, y_where, y_often, y_due, y_many, y_found)) (hp3 : p < 3) (hi : i < L p) (h0 : 0 < h) (hh : h < 4) (ho : y_op (14 * p + i) = nI o) (hcc : y_with (14 * p + i) = cc) (ho8 : o = 8) :
    es_Sp f d L p a s old Pg D (h + 1) c q (L p) i o cc (x_records, x_removedCount, x_flushed, x_drafted, nI h, x_time, x_foundAt, x_recordStream, x_recordType, x_recordVersion, x_recordValue, x_originProjection, x_originPosition, x_originInstruction, x_joined, x_removed, x_eventCount, x_cutLevel, x_draftType, x_draftValue, x_ops, x_arguments, x_programLength, x_states, x_noted, x_stack, x_metHeight, x_groupType, x_cursor, x_keptCursor, x_parked, x_rowCount, x_rowPosition, x_rowTimes, x_rowDue) (y_count, y_flushed, y_calls, y_drafted, nI h, y_time, y_isCut, y_removed, y_stream, y_type, y_from, y_by, y_value, y_version, y_on, y_call, y_draftType, y_draftValue, y_op, y_with, y_length, y_height, y_torn, y_stack, y_position, y_cells, y_noted, y_wanted, y_formed, y_cursor, y_parked, y_where, y_often, y_due, y_many, y_found) := by
  obtain ⟨⟨hLg, hD, hP, hS, hG, hF⟩, hq, _, _, hst, hsv, hot, hpo, hac, hcut, hstr, hpg⟩ := H
  have hl := hLg.2.2.2.2.2.2.2.2.2.2.2.2.2
  have hc2 : c ≤ 2000 := hl.1.1
  have hlen := hP.2.1 p
  have hoa := hP.2.2.1 p i (by omega) hi
  have hxl : x_programLength p = nI (L p) := by rw [← hP.1]; exact hlen.1
  have va : vp_in (nI a) 2000 := vp_in_nI (by omega) (by decide)
  have vh : vp_in (nI h) 8 := vp_in_nI (by omega) (by decide)
  have chh : (nI h).toNatClampNeg = h := nI_clamp (by omega)
  have em : nI h - 1 = nI (h - 1) := es_s1 h0
  have vm : vp_in (nI h - 1) 8 := by rw [em]; exact vp_in_nI (by omega) (by decide)
  have cm : (nI h - 1).toNatClampNeg = h - 1 := by rw [em, nI_clamp (by omega)]
  have ev : y_stack (h - 1) = x_stack (h - 1) := (hst (h - 1) (by omega)).symm
  subst ho8
  refine ⟨i + 1, (x_records, x_removedCount, x_flushed, x_drafted, nI (h + 1), x_time, x_foundAt, x_recordStream, x_recordType, x_recordVersion, x_recordValue, x_originProjection, x_originPosition, x_originInstruction, x_joined, x_removed, x_eventCount, x_cutLevel, x_draftType, x_draftValue, x_ops, x_arguments, x_programLength, x_states, x_noted, upd (upd x_stack (h - 1) (x_stack (h - 1))) h (x_stack (h - 1)), x_metHeight, x_groupType, x_cursor, x_keptCursor, x_parked, x_rowCount, x_rowPosition, x_rowTimes, x_rowDue), (y_count, y_flushed, y_calls, y_drafted, nI (h + 1), y_time, y_isCut, y_removed, y_stream, y_type, y_from, y_by, y_value, y_version, y_on, y_call, y_draftType, y_draftValue, y_op, y_with, y_length, y_height, y_torn, upd y_stack h (x_stack (h - 1)), y_position, y_cells, y_noted, y_wanted, y_formed, y_cursor, y_parked, y_where, y_often, y_due, y_many, y_found), ⟨⟨hLg, hD, hP, hS, hG, hF⟩, hq, rfl, rfl, fun j hj => ?_, hsv, hot, hpo, hac, hcut, hstr, hpg⟩, Or.inl ⟨rfl, by omega⟩, fun post n5 x5 h5 hr => ?_, fun post n5 hr => ?_⟩
  · rw [es_upd0 (f := x_stack) rfl]
    by_cases e : j = h
    · rw [e, pk_us, pk_us]
    · rw [pk_un e, pk_un e]; exact hst j (by omega)
  · refine ex_preC hp3 hlen.2 hxl hi h5 (hoa.1.trans ho) (hoa.2.trans hcc) (Or.inr (Or.inl rfl)) ?_
    refine br_f (by decide) (br_f (by decide) (br_f (by decide) (br_f (by decide) (br_f (by decide) (br_f (by decide) (br_f (by decide) (br_f (by decide) (br_f (by decide) (br_f (by decide) (br_t rfl ?_))))))))))
    refine ex_pop h0 (by omega) (ex_push (h := h - 1) (by omega) ?_)
    rw [show h - 1 + 1 = h by omega]
    exact ex_push hh (nm_r (nI_1 _) hr)
  · refine ey_pre hp3 hlen.2 hlen.1 hi (by omega) ho hcc (by omega) (by omega) ⟨va, nm_e ?_⟩
    refine br_f (by decide) (br_f (by decide) (br_f (by decide) (br_f (by decide) (br_f (by decide) (br_f (by decide) (br_f (by decide) (br_f (by decide) (br_f (by decide) (br_f (by decide) (br_t rfl ⟨vm, vh, nm_r (e' := upd y_stack h (x_stack (h - 1))) (by rw [chh, cm, ev]) (nm_r (nI_1 h) ?_)⟩))))))))))
    rw [nI_1 i]; exact hr
theorem em_bin (H : es_Rn f d L p a s old Pg D h c q (x_records, x_removedCount, x_flushed, x_drafted, nI h, x_time, x_foundAt, x_recordStream, x_recordType, x_recordVersion, x_recordValue, x_originProjection, x_originPosition, x_originInstruction, x_joined, x_removed, x_eventCount, x_cutLevel, x_draftType, x_draftValue, x_ops, x_arguments, x_programLength, x_states, x_noted, x_stack, x_metHeight, x_groupType, x_cursor, x_keptCursor, x_parked, x_rowCount, x_rowPosition, x_rowTimes, x_rowDue) (y_count, y_flushed, y_calls, y_drafted, nI h, y_time, y_isCut, y_removed, y_stream, y_type, y_from, y_by, y_value, y_version, y_on, y_call, y_draftType, y_draftValue, y_op, y_with, y_length, y_height, y_torn, y_stack, y_position, y_cells, y_noted, y_wanted, y_formed, y_cursor, y_parked, y_where, y_often, y_due, y_many, y_found)) (hp3 : p < 3) (hi : i < L p) (h2 : 2 ≤ h) (hh : h ≤ 4) (ho : y_op (14 * p + i) = nI o) (hcc : y_with (14 * p + i) = cc) (ho4 : 4 ≤ o) (ho8 : o < 8) :
    es_Sp f d L p a s old Pg D (h - 1) c q (L p) i o cc (x_records, x_removedCount, x_flushed, x_drafted, nI h, x_time, x_foundAt, x_recordStream, x_recordType, x_recordVersion, x_recordValue, x_originProjection, x_originPosition, x_originInstruction, x_joined, x_removed, x_eventCount, x_cutLevel, x_draftType, x_draftValue, x_ops, x_arguments, x_programLength, x_states, x_noted, x_stack, x_metHeight, x_groupType, x_cursor, x_keptCursor, x_parked, x_rowCount, x_rowPosition, x_rowTimes, x_rowDue) (y_count, y_flushed, y_calls, y_drafted, nI h, y_time, y_isCut, y_removed, y_stream, y_type, y_from, y_by, y_value, y_version, y_on, y_call, y_draftType, y_draftValue, y_op, y_with, y_length, y_height, y_torn, y_stack, y_position, y_cells, y_noted, y_wanted, y_formed, y_cursor, y_parked, y_where, y_often, y_due, y_many, y_found) := by
  obtain ⟨⟨hLg, hD, hP, hS, hG, hF⟩, hq, _, _, hst, hsv, hot, hpo, hac, hcut, hstr, hpg⟩ := H
  have hl := hLg.2.2.2.2.2.2.2.2.2.2.2.2.2
  have hc2 : c ≤ 2000 := hl.1.1
  have hlen := hP.2.1 p
  have hoa := hP.2.2.1 p i (by omega) hi
  have hxl : x_programLength p = nI (L p) := by rw [← hP.1]; exact hlen.1
  have va : vp_in (nI a) 2000 := vp_in_nI (by omega) (by decide)
  have em : nI h - 1 = nI (h - 1) := es_s1 (by omega)
  have vm : vp_in (nI h - 1) 8 := by rw [em]; exact vp_in_nI (by omega) (by decide)
  have cm : (nI h - 1).toNatClampNeg = h - 1 := by rw [em, nI_clamp (by omega)]
  have em2 : nI (h - 1) - 1 = nI (h - 2) := es_s1 (n := h - 1) (by omega)
  have vm2 : vp_in (nI (h - 1) - 1) 8 := by rw [em2]; exact vp_in_nI (by omega) (by decide)
  have cm2 : (nI (h - 1) - 1).toNatClampNeg = h - 2 := by rw [em2, nI_clamp (by omega)]
  have ev : y_stack (h - 1) = x_stack (h - 1) := (hst (h - 1) (by omega)).symm
  have ev2 : y_stack (h - 2) = x_stack (h - 2) := (hst (h - 2) (by omega)).symm
  have go : ∀ v : Int32, (∀ pst : SX → Prop, pst (x_records, x_removedCount, x_flushed, x_drafted, nI (h - 1), x_time, x_foundAt, x_recordStream, x_recordType, x_recordVersion, x_recordValue, x_originProjection, x_originPosition, x_originInstruction, x_joined, x_removed, x_eventCount, x_cutLevel, x_draftType, x_draftValue, x_ops, x_arguments, x_programLength, x_states, x_noted, upd x_stack (h - 2) v, x_metHeight, x_groupType, x_cursor, x_keptCursor, x_parked, x_rowCount, x_rowPosition, x_rowTimes, x_rowDue) → wpX_combine pst (x_records, x_removedCount, x_flushed, x_drafted, nI h, x_time, x_foundAt, x_recordStream, x_recordType, x_recordVersion, x_recordValue, x_originProjection, x_originPosition, x_originInstruction, x_joined, x_removed, x_eventCount, x_cutLevel, x_draftType, x_draftValue, x_ops, x_arguments, x_programLength, x_states, x_noted, x_stack, x_metHeight, x_groupType, x_cursor, x_keptCursor, x_parked, x_rowCount, x_rowPosition, x_rowTimes, x_rowDue) (nI o)) → (∀ pst : Int32 → SY → Prop, pst (nI (i + 1)) (y_count, y_flushed, y_calls, y_drafted, nI (h - 1), y_time, y_isCut, y_removed, y_stream, y_type, y_from, y_by, y_value, y_version, y_on, y_call, y_draftType, y_draftValue, y_op, y_with, y_length, y_height, y_torn, upd y_stack (h - 2) v, y_position, y_cells, y_noted, y_wanted, y_formed, y_cursor, y_parked, y_where, y_often, y_due, y_many, y_found) → wpY_step pst (y_count, y_flushed, y_calls, y_drafted, nI h, y_time, y_isCut, y_removed, y_stream, y_type, y_from, y_by, y_value, y_version, y_on, y_call, y_draftType, y_draftValue, y_op, y_with, y_length, y_height, y_torn, y_stack, y_position, y_cells, y_noted, y_wanted, y_formed, y_cursor, y_parked, y_where, y_often, y_due, y_many, y_found) (nI p) (nI a) (nI o) cc (nI i)) →
      es_Sp f d L p a s old Pg D (h - 1) c q (L p) i o cc (x_records, x_removedCount, x_flushed, x_drafted, nI h, x_time, x_foundAt, x_recordStream, x_recordType, x_recordVersion, x_recordValue, x_originProjection, x_originPosition, x_originInstruction, x_joined, x_removed, x_eventCount, x_cutLevel, x_draftType, x_draftValue, x_ops, x_arguments, x_programLength, x_states, x_noted, x_stack, x_metHeight, x_groupType, x_cursor, x_keptCursor, x_parked, x_rowCount, x_rowPosition, x_rowTimes, x_rowDue) (y_count, y_flushed, y_calls, y_drafted, nI h, y_time, y_isCut, y_removed, y_stream, y_type, y_from, y_by, y_value, y_version, y_on, y_call, y_draftType, y_draftValue, y_op, y_with, y_length, y_height, y_torn, y_stack, y_position, y_cells, y_noted, y_wanted, y_formed, y_cursor, y_parked, y_where, y_often, y_due, y_many, y_found) := by
    intro v hX hY
    refine ⟨i + 1, (x_records, x_removedCount, x_flushed, x_drafted, nI (h - 1), x_time, x_foundAt, x_recordStream, x_recordType, x_recordVersion, x_recordValue, x_originProjection, x_originPosition, x_originInstruction, x_joined, x_removed, x_eventCount, x_cutLevel, x_draftType, x_draftValue, x_ops, x_arguments, x_programLength, x_states, x_noted, upd x_stack (h - 2) v, x_metHeight, x_groupType, x_cursor, x_keptCursor, x_parked, x_rowCount, x_rowPosition, x_rowTimes, x_rowDue), (y_count, y_flushed, y_calls, y_drafted, nI (h - 1), y_time, y_isCut, y_removed, y_stream, y_type, y_from, y_by, y_value, y_version, y_on, y_call, y_draftType, y_draftValue, y_op, y_with, y_length, y_height, y_torn, upd y_stack (h - 2) v, y_position, y_cells, y_noted, y_wanted, y_formed, y_cursor, y_parked, y_where, y_often, y_due, y_many, y_found), ⟨⟨hLg, hD, hP, hS, hG, hF⟩, hq, rfl, rfl, fun j hj => ?_, hsv, hot, hpo, hac, hcut, hstr, hpg⟩, Or.inl ⟨rfl, by omega⟩, fun post n5 x5 h5 hr => ?_, fun post n5 hr => ?_⟩
    · by_cases e : j = h - 2
      · rw [e, pk_us, pk_us]
      · rw [pk_un e, pk_un e]; exact hst j (by omega)
    · exact ex_preB hp3 hlen.2 hxl hi h5 (hoa.1.trans ho) (hoa.2.trans hcc) ⟨ho4, ho8⟩ (hX _ (nm_r (nI_1 _) hr))
    · exact ey_pre hp3 hlen.2 hlen.1 hi (by omega) ho hcc (by omega) (by omega) (hY _ hr)
  have pu : ∀ (pst : SX → Prop) (v : Int32), pst (x_records, x_removedCount, x_flushed, x_drafted, nI (h - 1), x_time, x_foundAt, x_recordStream, x_recordType, x_recordVersion, x_recordValue, x_originProjection, x_originPosition, x_originInstruction, x_joined, x_removed, x_eventCount, x_cutLevel, x_draftType, x_draftValue, x_ops, x_arguments, x_programLength, x_states, x_noted, upd x_stack (h - 2) v, x_metHeight, x_groupType, x_cursor, x_keptCursor, x_parked, x_rowCount, x_rowPosition, x_rowTimes, x_rowDue) → wpX_push pst (x_records, x_removedCount, x_flushed, x_drafted, nI (h - 2), x_time, x_foundAt, x_recordStream, x_recordType, x_recordVersion, x_recordValue, x_originProjection, x_originPosition, x_originInstruction, x_joined, x_removed, x_eventCount, x_cutLevel, x_draftType, x_draftValue, x_ops, x_arguments, x_programLength, x_states, x_noted, x_stack, x_metHeight, x_groupType, x_cursor, x_keptCursor, x_parked, x_rowCount, x_rowPosition, x_rowTimes, x_rowDue) v := by
    intro pst v hp
    refine ex_push (h := h - 2) (by omega) ?_
    rw [show h - 2 + 1 = h - 1 by omega]
    exact hp
  have st268 : ∀ (pst : Int32 → SY → Prop) (v : Int32), pst (nI (i + 1)) (y_count, y_flushed, y_calls, y_drafted, nI (h - 1), y_time, y_isCut, y_removed, y_stream, y_type, y_from, y_by, y_value, y_version, y_on, y_call, y_draftType, y_draftValue, y_op, y_with, y_length, y_height, y_torn, upd y_stack (h - 2) v, y_position, y_cells, y_noted, y_wanted, y_formed, y_cursor, y_parked, y_where, y_often, y_due, y_many, y_found) → ((nI o = 4 ∧ v = x_stack (h - 2) + x_stack (h - 1)) ∨ (nI o = 5 ∧ v = x_stack (h - 2) - x_stack (h - 1)) ∨ (nI o = 6 ∧ v = x_stack (h - 2) * x_stack (h - 1)) ∨ (nI o = 7 ∧ x_stack (h - 1) ≤ x_stack (h - 2) ∧ v = 0) ∨ (nI o = 7 ∧ ¬ x_stack (h - 1) ≤ x_stack (h - 2) ∧ v = 1)) → wY_step_268 pst (nI o) (nI i) y_count y_flushed y_calls y_drafted (nI h) y_time y_isCut y_removed y_stream y_type y_from y_by y_value y_version y_on y_call y_draftType y_draftValue y_op y_with y_length y_height y_torn y_stack y_position y_cells y_noted y_wanted y_formed y_cursor y_parked y_where y_often y_due y_many y_found := by
    intro pst v hp hv
    refine nm_r em ⟨vm, nm_r (e' := x_stack (h - 1)) (by rw [cm, ev]) ⟨vm2, nm_r (e' := x_stack (h - 2)) (by rw [cm2, ev2]) ?_⟩⟩
    rw [cm2, nI_1 i]
    rcases hv with ⟨e, e2⟩ | ⟨e, e2⟩ | ⟨e, e2⟩ | ⟨e, w, e2⟩ | ⟨e, w, e2⟩
    · subst e2; rw [e]; exact br_t rfl ⟨vm2, nm_e hp⟩
    · subst e2; rw [e]; exact br_f (by decide) (br_t rfl ⟨vm2, nm_e hp⟩)
    · subst e2; rw [e]; exact br_f (by decide) (br_f (by decide) (br_t rfl ⟨vm2, nm_e hp⟩))
    · subst e2; rw [e]; exact br_f (by decide) (br_f (by decide) (br_f (by decide) (br_t w ⟨vm2, nm_e hp⟩)))
    · subst e2; rw [e]; exact br_f (by decide) (br_f (by decide) (br_f (by decide) (br_f w ⟨vm2, nm_e hp⟩)))
  have hcases : o = 4 ∨ o = 5 ∨ o = 6 ∨ o = 7 := by omega
  rcases hcases with e | e | e | e <;> subst e
  · refine go (x_stack (h - 2) + x_stack (h - 1)) (fun pst hr => ?_) (fun pst hr => ⟨va, nm_e (br_f (by decide) (br_f (by decide) (br_f (by decide) (br_f (by decide) (br_f (by decide) (br_f (by decide) (br_t rfl (st268 pst _ hr (Or.inl ⟨rfl, rfl⟩)))))))))⟩)
    unfold wpX_combine
    refine ex_pop (by omega) hh ?_
    refine ex_pop (h := h - 1) (by omega) (by omega) ?_
    rw [show h - 1 - 1 = h - 2 by omega]
    exact br_f (by decide) (br_f (by decide) (br_t rfl (pu _ _ hr)))
  · refine go (x_stack (h - 2) - x_stack (h - 1)) (fun pst hr => ?_) (fun pst hr => ⟨va, nm_e (br_f (by decide) (br_f (by decide) (br_f (by decide) (br_f (by decide) (br_f (by decide) (br_f (by decide) (br_f (by decide) (br_t rfl (st268 pst _ hr (Or.inr (Or.inl ⟨rfl, rfl⟩))))))))))) ⟩)
    unfold wpX_combine
    refine ex_pop (by omega) hh ?_
    refine ex_pop (h := h - 1) (by omega) (by omega) ?_
    rw [show h - 1 - 1 = h - 2 by omega]
    exact br_f (by decide) (br_f (by decide) (br_f (by decide) (br_t rfl (pu _ _ hr))))
  · refine go (x_stack (h - 2) * x_stack (h - 1)) (fun pst hr => ?_) (fun pst hr => ⟨va, nm_e (br_f (by decide) (br_f (by decide) (br_f (by decide) (br_f (by decide) (br_f (by decide) (br_f (by decide) (br_f (by decide) (br_f (by decide) (br_t rfl (st268 pst _ hr (Or.inr (Or.inr (Or.inl ⟨rfl, rfl⟩)))))))))))))⟩)
    unfold wpX_combine
    refine ex_pop (by omega) hh ?_
    refine ex_pop (h := h - 1) (by omega) (by omega) ?_
    rw [show h - 1 - 1 = h - 2 by omega]
    exact br_f (by decide) (br_f (by decide) (br_f (by decide) (br_f (by decide) (br_t rfl (pu _ _ hr)))))
  · by_cases w : x_stack (h - 1) ≤ x_stack (h - 2)
    · refine go 0 (fun pst hr => ?_) (fun pst hr => ⟨va, nm_e (br_f (by decide) (br_f (by decide) (br_f (by decide) (br_f (by decide) (br_f (by decide) (br_f (by decide) (br_f (by decide) (br_f (by decide) (br_f (by decide) (br_t rfl (st268 pst _ hr (Or.inr (Or.inr (Or.inr (Or.inl ⟨rfl, w, rfl⟩)))))))))))))))⟩)
      unfold wpX_combine
      refine ex_pop (by omega) hh ?_
      refine ex_pop (h := h - 1) (by omega) (by omega) ?_
      rw [show h - 1 - 1 = h - 2 by omega]
      exact br_f (by decide) (br_t (by decide) (br_t w (pu _ _ hr)))
    · refine go 1 (fun pst hr => ?_) (fun pst hr => ⟨va, nm_e (br_f (by decide) (br_f (by decide) (br_f (by decide) (br_f (by decide) (br_f (by decide) (br_f (by decide) (br_f (by decide) (br_f (by decide) (br_f (by decide) (br_t rfl (st268 pst _ hr (Or.inr (Or.inr (Or.inr (Or.inr ⟨rfl, w, rfl⟩)))))))))))))))⟩)
      unfold wpX_combine
      refine ex_pop (by omega) hh ?_
      refine ex_pop (h := h - 1) (by omega) (by omega) ?_
      rw [show h - 1 - 1 = h - 2 by omega]
      exact br_f (by decide) (br_t (by decide) (br_f w (pu _ _ hr)))
end
end
section
section
variable {x_records x_removedCount x_flushed x_drafted x_height x_time x_foundAt : Int32} {x_recordStream x_recordType x_recordVersion x_recordValue x_originProjection x_originPosition x_originInstruction x_joined x_removed x_eventCount x_cutLevel x_draftType x_draftValue x_ops x_arguments x_programLength x_states x_noted x_stack x_metHeight x_groupType x_cursor x_keptCursor x_parked x_rowCount x_rowPosition x_rowTimes x_rowDue : Nat → Int32} {y_count y_flushed y_calls y_drafted y_top y_time : Int32} {y_isCut y_removed y_stream y_type y_from y_by y_value y_version y_on y_call y_draftType y_draftValue y_op y_with y_length y_height y_torn y_stack y_position y_cells y_noted y_wanted y_formed y_cursor y_parked y_where y_often y_due y_many y_found : Nat → Int32} {c f q : Nat} {cut rm str ty fr byi val ver onn call oi jn ec cl : Nat → Int32} {d : Nat} {L : Nat → Nat} {p a s n i o D h : Nat} {old : Nat → Int32} {Pg : (Nat → Int32) → (Nat → Int32) → Prop} {cc : Int32}
theorem em_set (H : es_Rn f d L p a s old Pg D h c q (x_records, x_removedCount, x_flushed, x_drafted, nI h, x_time, x_foundAt, x_recordStream, x_recordType, x_recordVersion, x_recordValue, x_originProjection, x_originPosition, x_originInstruction, x_joined, x_removed, x_eventCount, x_cutLevel, x_draftType, x_draftValue, x_ops, x_arguments, x_programLength, x_states, x_noted, x_stack, x_metHeight, x_groupType, x_cursor, x_keptCursor, x_parked, x_rowCount, x_rowPosition, x_rowTimes, x_rowDue) (y_count, y_flushed, y_calls, y_drafted, nI h, y_time, y_isCut, y_removed, y_stream, y_type, y_from, y_by, y_value, y_version, y_on, y_call, y_draftType, y_draftValue, y_op, y_with, y_length, y_height, y_torn, y_stack, y_position, y_cells, y_noted, y_wanted, y_formed, y_cursor, y_parked, y_where, y_often, y_due, y_many, y_found)) (hp3 : p < 3) (hs5 : s < 5) (hi : i < L p) (h0 : 0 < h) (hh : h ≤ 4) (ho : y_op (14 * p + i) = nI o) (hcc : y_with (14 * p + i) = cc) (ho9 : o = 9) (hfit : es_fit o cc i (L p)) :
    es_Sp f d L p a s old Pg D (h - 1) c q (L p) i o cc (x_records, x_removedCount, x_flushed, x_drafted, nI h, x_time, x_foundAt, x_recordStream, x_recordType, x_recordVersion, x_recordValue, x_originProjection, x_originPosition, x_originInstruction, x_joined, x_removed, x_eventCount, x_cutLevel, x_draftType, x_draftValue, x_ops, x_arguments, x_programLength, x_states, x_noted, x_stack, x_metHeight, x_groupType, x_cursor, x_keptCursor, x_parked, x_rowCount, x_rowPosition, x_rowTimes, x_rowDue) (y_count, y_flushed, y_calls, y_drafted, nI h, y_time, y_isCut, y_removed, y_stream, y_type, y_from, y_by, y_value, y_version, y_on, y_call, y_draftType, y_draftValue, y_op, y_with, y_length, y_height, y_torn, y_stack, y_position, y_cells, y_noted, y_wanted, y_formed, y_cursor, y_parked, y_where, y_often, y_due, y_many, y_found) := by
  obtain ⟨⟨hLg, hD, hP, hS, hG, hF⟩, hq, _, _, hst, hsv, hot, hpo, hac, hcut, hstr, hpg⟩ := H
  have hl := hLg.2.2.2.2.2.2.2.2.2.2.2.2.2
  have hc2 : c ≤ 2000 := hl.1.1
  have hlen := hP.2.1 p
  have hoa := hP.2.2.1 p i (by omega) hi
  have hxl : x_programLength p = nI (L p) := by rw [← hP.1]; exact hlen.1
  have ca : (nI a).toNatClampNeg = a := nI_clamp (by omega)
  have va : vp_in (nI a) 2000 := vp_in_nI (by omega) (by decide)
  have em : nI h - 1 = nI (h - 1) := es_s1 h0
  have vm : vp_in (nI h - 1) 8 := by rw [em]; exact vp_in_nI (by omega) (by decide)
  have cm : (nI h - 1).toNatClampNeg = h - 1 := by rw [em, nI_clamp (by omega)]
  have ev : y_stack (h - 1) = x_stack (h - 1) := (hst (h - 1) (by omega)).symm
  obtain ⟨t, ht, et⟩ := (es_fit_c (Or.inr ho9)).mp hfit
  have e1 : nI (11 * p + 2 * s) + cc = nI (11 * p + (2 * s + t)) := by rw [et, nI_add, Nat.add_assoc]
  have e2 : 10 * nI p + 2 * y_stream (nI a).toNatClampNeg + cc = nI (10 * p + (2 * s + t)) := by
    rw [ca, hstr, et, es_10, show (2 : Int32) = nI 2 from rfl, pk_mul, nI_add, nI_add]; congr 1; omega
  subst ho9
  refine ⟨i + 1, (x_records, x_removedCount, x_flushed, x_drafted, nI (h - 1), x_time, x_foundAt, x_recordStream, x_recordType, x_recordVersion, x_recordValue, x_originProjection, x_originPosition, x_originInstruction, x_joined, x_removed, x_eventCount, x_cutLevel, x_draftType, x_draftValue, x_ops, x_arguments, x_programLength, upd x_states (11 * p + (2 * s + t)) (x_stack (h - 1)), x_noted, x_stack, x_metHeight, x_groupType, x_cursor, x_keptCursor, x_parked, x_rowCount, x_rowPosition, x_rowTimes, x_rowDue), (y_count, y_flushed, y_calls, y_drafted, nI (h - 1), y_time, y_isCut, y_removed, y_stream, y_type, y_from, y_by, y_value, y_version, y_on, y_call, y_draftType, y_draftValue, y_op, y_with, y_length, y_height, y_torn, y_stack, y_position, upd y_cells (10 * p + (2 * s + t)) (x_stack (h - 1)), y_noted, y_wanted, y_formed, y_cursor, y_parked, y_where, y_often, y_due, y_many, y_found), ⟨⟨hLg, hD, hP, fun m hm hl => ?_, hG, hF⟩, hq, rfl, rfl, fun j hj => hst j (by omega), fun k hk => ?_, fun k hk k1 k2 => ?_, ?_, hac, hcut, hstr, hpg⟩, Or.inl ⟨rfl, by omega⟩, fun post n5 x5 h5 hr => ?_, fun post n5 hr => ?_⟩
  · obtain ⟨a1, a2, a3, a4⟩ := hS m hm hl
    refine ⟨?_, es_Eq_c a2 (fun k hk => pk_un (by omega)) rfl (fun k hk => pk_un (by omega)), a3, fun z => es_Eq_c (a4 z) (fun k hk => pk_un (by omega)) rfl (fun k hk => pk_un (by omega))⟩
    by_cases e : m = p
    · subst e
      obtain ⟨⟨b, hb, b1, b2⟩, b3⟩ := a1
      refine ⟨⟨b, hb, ?_, b2⟩, fun k hk => ?_⟩
      · rw [pk_un (by omega)]; exact b1
      · by_cases w : k = 2 * s + t
        · rw [w, pk_us, pk_us]
        · rw [pk_un (by omega), pk_un (by omega)]; exact b3 k hk
    · exact es_Eq_c a1 (fun k hk => pk_un (by omega)) rfl (fun k hk => pk_un (by omega))
  · rw [pk_un (by omega)]; exact hsv k hk
  · rw [pk_un (by omega)]; exact hot k hk k1 k2
  · rw [pk_un (by omega)]; exact hpo
  · refine ex_preC hp3 hlen.2 hxl hi h5 (hoa.1.trans ho) (hoa.2.trans hcc) (Or.inr (Or.inr rfl)) ?_
    refine br_f (by decide) (br_f (by decide) (br_f (by decide) (br_f (by decide) (br_f (by decide) (br_f (by decide) (br_f (by decide) (br_f (by decide) (br_f (by decide) (br_f (by decide) (br_f (by decide) (br_t rfl ?_)))))))))))
    refine ex_pop h0 hh ?_
    rw [e1, nI_clamp (by omega)]
    exact ⟨vp_in_nI (by omega) (by decide), nm_e (nm_r (nI_1 _) hr)⟩
  · refine ey_pre hp3 hlen.2 hlen.1 hi (by omega) ho hcc (by omega) (by omega) ⟨va, nm_r e2 ?_⟩
    refine br_f (by decide) (br_f (by decide) (br_f (by decide) (br_f (by decide) (br_f (by decide) (br_f (by decide) (br_f (by decide) (br_f (by decide) (br_f (by decide) (br_f (by decide) (br_f (by decide) (br_t rfl (nm_r em ⟨vm, vp_in_nI (by omega) (by decide), nm_r (e' := upd y_cells (10 * p + (2 * s + t)) (x_stack (h - 1))) (by rw [nI_clamp (by omega), cm, ev]) ?_⟩))))))))))))
    rw [nI_1 i]; exact hr
theorem ex_preJ {post : Int32 → SX → Prop} {n5 x5 : Nat} (hp3 : p < 3) (hn : n ≤ 14) (hpl : x_programLength p = nI n) (hi : i < n) (h5 : x5 < 14) (ho : x_ops (14 * p + i) = nI o) (hcc : x_arguments (14 * p + i) = cc)
    (h13 : o = 13 → wX_run_11 post (nI p) (nI a) (nI (11 * p + 2 * s)) n5 (nI n) (nI (x5 + 1)) x_records x_removedCount x_flushed x_drafted x_height x_time x_foundAt x_recordStream x_recordType x_recordVersion x_recordValue x_originProjection x_originPosition x_originInstruction x_joined x_removed x_eventCount x_cutLevel x_draftType x_draftValue x_ops x_arguments x_programLength x_states x_noted x_stack x_metHeight x_groupType x_cursor x_keptCursor x_parked x_rowCount x_rowPosition x_rowTimes x_rowDue)
    (h11 : o = 11 → wX_run_11 post (nI p) (nI a) (nI (11 * p + 2 * s)) n5 cc (nI (x5 + 1)) x_records x_removedCount x_flushed x_drafted x_height x_time x_foundAt x_recordStream x_recordType x_recordVersion x_recordValue x_originProjection x_originPosition x_originInstruction x_joined x_removed x_eventCount x_cutLevel x_draftType x_draftValue x_ops x_arguments x_programLength x_states x_noted x_stack x_metHeight x_groupType x_cursor x_keptCursor x_parked x_rowCount x_rowPosition x_rowTimes x_rowDue)
    (h10 : o = 10 → wpX_pop (fun r u => match u with | (x_records, x_removedCount, x_flushed, x_drafted, x_height, x_time, x_foundAt, x_recordStream, x_recordType, x_recordVersion, x_recordValue, x_originProjection, x_originPosition, x_originInstruction, x_joined, x_removed, x_eventCount, x_cutLevel, x_draftType, x_draftValue, x_ops, x_arguments, x_programLength, x_states, x_noted, x_stack, x_metHeight, x_groupType, x_cursor, x_keptCursor, x_parked, x_rowCount, x_rowPosition, x_rowTimes, x_rowDue) => (r = 0 → ∀ x5' : Int32, x5' = nI x5 + 1 → wX_run_11 post (nI p) (nI a) (nI (11 * p + 2 * s)) n5 cc x5' x_records x_removedCount x_flushed x_drafted x_height x_time x_foundAt x_recordStream x_recordType x_recordVersion x_recordValue x_originProjection x_originPosition x_originInstruction x_joined x_removed x_eventCount x_cutLevel x_draftType x_draftValue x_ops x_arguments x_programLength x_states x_noted x_stack x_metHeight x_groupType x_cursor x_keptCursor x_parked x_rowCount x_rowPosition x_rowTimes x_rowDue) ∧ (¬ r = 0 → ∀ x5' : Int32, x5' = nI x5 + 1 → wX_run_11 post (nI p) (nI a) (nI (11 * p + 2 * s)) n5 (nI (i + 1)) x5' x_records x_removedCount x_flushed x_drafted x_height x_time x_foundAt x_recordStream x_recordType x_recordVersion x_recordValue x_originProjection x_originPosition x_originInstruction x_joined x_removed x_eventCount x_cutLevel x_draftType x_draftValue x_ops x_arguments x_programLength x_states x_noted x_stack x_metHeight x_groupType x_cursor x_keptCursor x_parked x_rowCount x_rowPosition x_rowTimes x_rowDue)) (x_records, x_removedCount, x_flushed, x_drafted, x_height, x_time, x_foundAt, x_recordStream, x_recordType, x_recordVersion, x_recordValue, x_originProjection, x_originPosition, x_originInstruction, x_joined, x_removed, x_eventCount, x_cutLevel, x_draftType, x_draftValue, x_ops, x_arguments, x_programLength, x_states, x_noted, x_stack, x_metHeight, x_groupType, x_cursor, x_keptCursor, x_parked, x_rowCount, x_rowPosition, x_rowTimes, x_rowDue))
    (h12 : o = 12 → wpX_emit (fun r u => match u with | (x_records, x_removedCount, x_flushed, x_drafted, x_height, x_time, x_foundAt, x_recordStream, x_recordType, x_recordVersion, x_recordValue, x_originProjection, x_originPosition, x_originInstruction, x_joined, x_removed, x_eventCount, x_cutLevel, x_draftType, x_draftValue, x_ops, x_arguments, x_programLength, x_states, x_noted, x_stack, x_metHeight, x_groupType, x_cursor, x_keptCursor, x_parked, x_rowCount, x_rowPosition, x_rowTimes, x_rowDue) => (r = 0 → post 0 (x_records, x_removedCount, x_flushed, x_drafted, x_height, x_time, x_foundAt, x_recordStream, x_recordType, x_recordVersion, x_recordValue, x_originProjection, x_originPosition, x_originInstruction, x_joined, x_removed, x_eventCount, x_cutLevel, x_draftType, x_draftValue, x_ops, x_arguments, x_programLength, x_states, x_noted, x_stack, x_metHeight, x_groupType, x_cursor, x_keptCursor, x_parked, x_rowCount, x_rowPosition, x_rowTimes, x_rowDue)) ∧ (¬ r = 0 → ∀ x5' : Int32, x5' = nI x5 + 1 → wX_run_11 post (nI p) (nI a) (nI (11 * p + 2 * s)) n5 (nI (i + 1)) x5' x_records x_removedCount x_flushed x_drafted x_height x_time x_foundAt x_recordStream x_recordType x_recordVersion x_recordValue x_originProjection x_originPosition x_originInstruction x_joined x_removed x_eventCount x_cutLevel x_draftType x_draftValue x_ops x_arguments x_programLength x_states x_noted x_stack x_metHeight x_groupType x_cursor x_keptCursor x_parked x_rowCount x_rowPosition x_rowTimes x_rowDue)) (x_records, x_removedCount, x_flushed, x_drafted, x_height, x_time, x_foundAt, x_recordStream, x_recordType, x_recordVersion, x_recordValue, x_originProjection, x_originPosition, x_originInstruction, x_joined, x_removed, x_eventCount, x_cutLevel, x_draftType, x_draftValue, x_ops, x_arguments, x_programLength, x_states, x_noted, x_stack, x_metHeight, x_groupType, x_cursor, x_keptCursor, x_parked, x_rowCount, x_rowPosition, x_rowTimes, x_rowDue) (nI p) (nI a) (nI i) cc)
    (hc : 10 ≤ o) (hc2 : o < 14) :
    wX_run_11 post (nI p) (nI a) (nI (11 * p + 2 * s)) (n5 + 1) (nI i) (nI x5) x_records x_removedCount x_flushed x_drafted x_height x_time x_foundAt x_recordStream x_recordType x_recordVersion x_recordValue x_originProjection x_originPosition x_originInstruction x_joined x_removed x_eventCount x_cutLevel x_draftType x_draftValue x_ops x_arguments x_programLength x_states x_noted x_stack x_metHeight x_groupType x_cursor x_keptCursor x_parked x_rowCount x_rowPosition x_rowTimes x_rowDue := by
  have e14 : nI p * 14 + nI i = nI (14 * p + i) := by rw [es_14, nI_add]
  have v14 : vp_in (nI p * 14 + nI i) 56 := by rw [e14]; exact vp_in_nI (by omega) (by decide)
  have c14 : (nI p * 14 + nI i).toNatClampNeg = 14 * p + i := by rw [e14, nI_clamp (by omega)]
  have cp : (nI p).toNatClampNeg = p := nI_clamp (by omega)
  refine br_f (nI_ge (b := 14) h5 (by decide)) ⟨vp_in_nI (by omega) (by decide), br_f (by rw [cp, hpl]; exact nI_ge hi (by omega)) ⟨v14, nm_r (e' := nI o) (by rw [c14, ho]) ⟨v14, nm_r (e' := cc) (by rw [c14, hcc]) (nm_r (nI_1 i) ?_)⟩⟩⟩
  have hcases : o = 10 ∨ o = 11 ∨ o = 12 ∨ o = 13 := by omega
  rcases hcases with e | e | e | e <;> subst e
  · exact br_f (by decide) (br_f (by decide) (br_t rfl (h10 rfl)))
  · exact br_f (by decide) (br_t rfl (nm_r (nI_1 _) (h11 rfl)))
  · exact br_f (by decide) (br_f (by decide) (br_f (by decide) (br_t rfl (h12 rfl))))
  · exact br_t rfl ⟨vp_in_nI (by omega) (by decide), nm_r (e' := nI n) (by rw [cp, hpl]) (nm_r (nI_1 _) (h13 rfl))⟩
theorem em_zero (H : es_Rn f d L p a s old Pg D h c q (x_records, x_removedCount, x_flushed, x_drafted, nI h, x_time, x_foundAt, x_recordStream, x_recordType, x_recordVersion, x_recordValue, x_originProjection, x_originPosition, x_originInstruction, x_joined, x_removed, x_eventCount, x_cutLevel, x_draftType, x_draftValue, x_ops, x_arguments, x_programLength, x_states, x_noted, x_stack, x_metHeight, x_groupType, x_cursor, x_keptCursor, x_parked, x_rowCount, x_rowPosition, x_rowTimes, x_rowDue) (y_count, y_flushed, y_calls, y_drafted, nI h, y_time, y_isCut, y_removed, y_stream, y_type, y_from, y_by, y_value, y_version, y_on, y_call, y_draftType, y_draftValue, y_op, y_with, y_length, y_height, y_torn, y_stack, y_position, y_cells, y_noted, y_wanted, y_formed, y_cursor, y_parked, y_where, y_often, y_due, y_many, y_found)) (hp3 : p < 3) (hi : i < L p) (h0 : 0 < h) (hh : h ≤ 4) (ho : y_op (14 * p + i) = nI o) (hcc : y_with (14 * p + i) = cc) (ho10 : o = 10) (hfit : es_fit o cc i (L p)) :
    es_Sp f d L p a s old Pg D (h - 1) c q (L p) i o cc (x_records, x_removedCount, x_flushed, x_drafted, nI h, x_time, x_foundAt, x_recordStream, x_recordType, x_recordVersion, x_recordValue, x_originProjection, x_originPosition, x_originInstruction, x_joined, x_removed, x_eventCount, x_cutLevel, x_draftType, x_draftValue, x_ops, x_arguments, x_programLength, x_states, x_noted, x_stack, x_metHeight, x_groupType, x_cursor, x_keptCursor, x_parked, x_rowCount, x_rowPosition, x_rowTimes, x_rowDue) (y_count, y_flushed, y_calls, y_drafted, nI h, y_time, y_isCut, y_removed, y_stream, y_type, y_from, y_by, y_value, y_version, y_on, y_call, y_draftType, y_draftValue, y_op, y_with, y_length, y_height, y_torn, y_stack, y_position, y_cells, y_noted, y_wanted, y_formed, y_cursor, y_parked, y_where, y_often, y_due, y_many, y_found) := by
  obtain ⟨⟨hLg, hD, hP, hS, hG, hF⟩, hq, _, _, hst, hsv, hot, hpo, hac, hcut, hstr, hpg⟩ := H
  have hl := hLg.2.2.2.2.2.2.2.2.2.2.2.2.2
  have hc2 : c ≤ 2000 := hl.1.1
  have hlen := hP.2.1 p
  have hoa := hP.2.2.1 p i (by omega) hi
  have hxl : x_programLength p = nI (L p) := by rw [← hP.1]; exact hlen.1
  have va : vp_in (nI a) 2000 := vp_in_nI (by omega) (by decide)
  have em : nI h - 1 = nI (h - 1) := es_s1 h0
  have vm : vp_in (nI h - 1) 8 := by rw [em]; exact vp_in_nI (by omega) (by decide)
  have cm : (nI h - 1).toNatClampNeg = h - 1 := by rw [em, nI_clamp (by omega)]
  have ev : y_stack (h - 1) = x_stack (h - 1) := (hst (h - 1) (by omega)).symm
  obtain ⟨t, ht1, ht2, et⟩ := (es_fit_j (Or.inl ho10)).mp hfit
  subst ho10
  have hR : es_Rn f d L p a s old Pg D (h - 1) c q (x_records, x_removedCount, x_flushed, x_drafted, nI (h - 1), x_time, x_foundAt, x_recordStream, x_recordType, x_recordVersion, x_recordValue, x_originProjection, x_originPosition, x_originInstruction, x_joined, x_removed, x_eventCount, x_cutLevel, x_draftType, x_draftValue, x_ops, x_arguments, x_programLength, x_states, x_noted, x_stack, x_metHeight, x_groupType, x_cursor, x_keptCursor, x_parked, x_rowCount, x_rowPosition, x_rowTimes, x_rowDue) (y_count, y_flushed, y_calls, y_drafted, nI (h - 1), y_time, y_isCut, y_removed, y_stream, y_type, y_from, y_by, y_value, y_version, y_on, y_call, y_draftType, y_draftValue, y_op, y_with, y_length, y_height, y_torn, y_stack, y_position, y_cells, y_noted, y_wanted, y_formed, y_cursor, y_parked, y_where, y_often, y_due, y_many, y_found) := ⟨⟨hLg, hD, hP, hS, hG, hF⟩, hq, rfl, rfl, fun j hj => hst j (by omega), hsv, hot, hpo, hac, hcut, hstr, hpg⟩
  by_cases z : x_stack (h - 1) = 0
  · refine ⟨t, _, _, hR, Or.inr ⟨Or.inl rfl, et, ht1, ht2⟩, fun post n5 x5 h5 hr => ?_, fun post n5 hr => ?_⟩
    · refine ex_preJ hp3 hlen.2 hxl hi h5 (hoa.1.trans ho) (hoa.2.trans hcc) (fun y => absurd y (by omega)) (fun y => absurd y (by omega)) (fun _ => ex_pop h0 hh (br_t z (nm_r (nI_1 _) ?_))) (fun y => absurd y (by omega)) (by omega) (by omega)
      rw [et]; exact hr
    · refine ey_pre hp3 hlen.2 hlen.1 hi (by omega) ho hcc (by omega) (by omega) ⟨va, nm_e ?_⟩
      refine br_f (by decide) (br_f (by decide) (br_f (by decide) (br_f (by decide) (br_f (by decide) (br_f (by decide) (br_f (by decide) (br_f (by decide) (br_f (by decide) (br_f (by decide) (br_f (by decide) (br_f (by decide) (br_t rfl (nm_r em ⟨vm, br_t (by rw [cm, ev]; exact z) ?_⟩)))))))))))))
      rw [et]; exact hr
  · refine ⟨i + 1, _, _, hR, Or.inl ⟨rfl, by omega⟩, fun post n5 x5 h5 hr => ?_, fun post n5 hr => ?_⟩
    · exact ex_preJ hp3 hlen.2 hxl hi h5 (hoa.1.trans ho) (hoa.2.trans hcc) (fun y => absurd y (by omega)) (fun y => absurd y (by omega)) (fun _ => ex_pop h0 hh (br_f z (nm_r (nI_1 _) hr))) (fun y => absurd y (by omega)) (by omega) (by omega)
    · refine ey_pre hp3 hlen.2 hlen.1 hi (by omega) ho hcc (by omega) (by omega) ⟨va, nm_e ?_⟩
      refine br_f (by decide) (br_f (by decide) (br_f (by decide) (br_f (by decide) (br_f (by decide) (br_f (by decide) (br_f (by decide) (br_f (by decide) (br_f (by decide) (br_f (by decide) (br_f (by decide) (br_f (by decide) (br_t rfl (nm_r em ⟨vm, br_f (by rw [cm, ev]; exact z) ?_⟩)))))))))))))
      rw [nI_1 i]; exact hr
theorem em_jump (H : es_Rn f d L p a s old Pg D h c q (x_records, x_removedCount, x_flushed, x_drafted, nI h, x_time, x_foundAt, x_recordStream, x_recordType, x_recordVersion, x_recordValue, x_originProjection, x_originPosition, x_originInstruction, x_joined, x_removed, x_eventCount, x_cutLevel, x_draftType, x_draftValue, x_ops, x_arguments, x_programLength, x_states, x_noted, x_stack, x_metHeight, x_groupType, x_cursor, x_keptCursor, x_parked, x_rowCount, x_rowPosition, x_rowTimes, x_rowDue) (y_count, y_flushed, y_calls, y_drafted, nI h, y_time, y_isCut, y_removed, y_stream, y_type, y_from, y_by, y_value, y_version, y_on, y_call, y_draftType, y_draftValue, y_op, y_with, y_length, y_height, y_torn, y_stack, y_position, y_cells, y_noted, y_wanted, y_formed, y_cursor, y_parked, y_where, y_often, y_due, y_many, y_found)) (hp3 : p < 3) (hi : i < L p) (ho : y_op (14 * p + i) = nI o) (hcc : y_with (14 * p + i) = cc) (ho11 : o = 11) (hfit : es_fit o cc i (L p)) :
    es_Sp f d L p a s old Pg D h c q (L p) i o cc (x_records, x_removedCount, x_flushed, x_drafted, nI h, x_time, x_foundAt, x_recordStream, x_recordType, x_recordVersion, x_recordValue, x_originProjection, x_originPosition, x_originInstruction, x_joined, x_removed, x_eventCount, x_cutLevel, x_draftType, x_draftValue, x_ops, x_arguments, x_programLength, x_states, x_noted, x_stack, x_metHeight, x_groupType, x_cursor, x_keptCursor, x_parked, x_rowCount, x_rowPosition, x_rowTimes, x_rowDue) (y_count, y_flushed, y_calls, y_drafted, nI h, y_time, y_isCut, y_removed, y_stream, y_type, y_from, y_by, y_value, y_version, y_on, y_call, y_draftType, y_draftValue, y_op, y_with, y_length, y_height, y_torn, y_stack, y_position, y_cells, y_noted, y_wanted, y_formed, y_cursor, y_parked, y_where, y_often, y_due, y_many, y_found) := by
  have H0 := H
  obtain ⟨⟨hLg, hD, hP, hS, hG, hF⟩, hq, _, _, hst, hsv, hot, hpo, hac, hcut, hstr, hpg⟩ := H
  have hl := hLg.2.2.2.2.2.2.2.2.2.2.2.2.2
  have hc2 : c ≤ 2000 := hl.1.1
  have hlen := hP.2.1 p
  have hoa := hP.2.2.1 p i (by omega) hi
  have hxl : x_programLength p = nI (L p) := by rw [← hP.1]; exact hlen.1
  have va : vp_in (nI a) 2000 := vp_in_nI (by omega) (by decide)
  obtain ⟨t, ht1, ht2, et⟩ := (es_fit_j (Or.inr ho11)).mp hfit
  subst ho11
  refine ⟨t, _, _, H0, Or.inr ⟨Or.inr rfl, et, ht1, ht2⟩, fun post n5 x5 h5 hr => ?_, fun post n5 hr => ?_⟩
  · refine ex_preJ hp3 hlen.2 hxl hi h5 (hoa.1.trans ho) (hoa.2.trans hcc) (fun y => absurd y (by omega)) (fun _ => ?_) (fun y => absurd y (by omega)) (fun y => absurd y (by omega)) (by omega) (by omega)
    rw [et]; exact hr
  · refine ey_pre hp3 hlen.2 hlen.1 hi (by omega) ho hcc (by omega) (by omega) ⟨va, nm_e ?_⟩
    refine br_f (by decide) (br_f (by decide) (br_f (by decide) (br_f (by decide) (br_f (by decide) (br_f (by decide) (br_f (by decide) (br_f (by decide) (br_f (by decide) (br_f (by decide) (br_f (by decide) (br_f (by decide) (br_f (by decide) (br_t rfl ?_)))))))))))))
    rw [et]; exact hr
end
end
section
section
variable {x_records x_removedCount x_flushed x_drafted x_height x_time x_foundAt : Int32} {x_recordStream x_recordType x_recordVersion x_recordValue x_originProjection x_originPosition x_originInstruction x_joined x_removed x_eventCount x_cutLevel x_draftType x_draftValue x_ops x_arguments x_programLength x_states x_noted x_stack x_metHeight x_groupType x_cursor x_keptCursor x_parked x_rowCount x_rowPosition x_rowTimes x_rowDue : Nat → Int32} {y_count y_flushed y_calls y_drafted y_top y_time : Int32} {y_isCut y_removed y_stream y_type y_from y_by y_value y_version y_on y_call y_draftType y_draftValue y_op y_with y_length y_height y_torn y_stack y_position y_cells y_noted y_wanted y_formed y_cursor y_parked y_where y_often y_due y_many y_found : Nat → Int32} {c f q : Nat} {cut rm str ty fr byi val ver onn call oi jn ec cl : Nat → Int32} {d : Nat} {L : Nat → Nat} {p a s n i o D h : Nat} {old : Nat → Int32} {Pg : (Nat → Int32) → (Nat → Int32) → Prop} {cc : Int32}
def es_rst (u : SX) (x : Nat) (c0 c1 : Int32) : SX := match u with
  | (x_records, x_removedCount, x_flushed, x_drafted, x_height, x_time, x_foundAt, x_recordStream, x_recordType, x_recordVersion, x_recordValue, x_originProjection, x_originPosition, x_originInstruction, x_joined, x_removed, x_eventCount, x_cutLevel, x_draftType, x_draftValue, x_ops, x_arguments, x_programLength, x_states, x_noted, x_stack, x_metHeight, x_groupType, x_cursor, x_keptCursor, x_parked, x_rowCount, x_rowPosition, x_rowTimes, x_rowDue) => (x_records, x_removedCount, x_flushed, x_drafted, x_height, x_time, x_foundAt, x_recordStream, x_recordType, x_recordVersion, x_recordValue, x_originProjection, x_originPosition, x_originInstruction, x_joined, x_removed, x_eventCount, x_cutLevel, x_draftType, x_draftValue, x_ops, x_arguments, x_programLength, upd (upd x_states x c0) (x + 1) c1, x_noted, x_stack, x_metHeight, x_groupType, x_cursor, x_keptCursor, x_parked, x_rowCount, x_rowPosition, x_rowTimes, x_rowDue)
def es_psn (u : SX) (p : Nat) : Int32 := match u with
  | (x_records, x_removedCount, x_flushed, x_drafted, x_height, x_time, x_foundAt, x_recordStream, x_recordType, x_recordVersion, x_recordValue, x_originProjection, x_originPosition, x_originInstruction, x_joined, x_removed, x_eventCount, x_cutLevel, x_draftType, x_draftValue, x_ops, x_arguments, x_programLength, x_states, x_noted, x_stack, x_metHeight, x_groupType, x_cursor, x_keptCursor, x_parked, x_rowCount, x_rowPosition, x_rowTimes, x_rowDue) => x_states (11 * p + 10)
/-- EMIT goes on -/
def es_EC (f d : Nat) (L : Nat → Nat) (p a s : Nat) (old : Nat → Int32) (Pg : (Nat → Int32) → (Nat → Int32) → Prop) (D h' i : Nat) (u : SX) (v : SY) : Prop :=
  ∃ (c' q' : Nat) (u' : SX) (v' : SY), es_Rn f d L p a s old Pg D h' c' q' u' v' ∧
    (∀ (post : Int32 → SX → Prop) (n5 x5 : Nat), x5 < 14 → (match u' with | (x_records, x_removedCount, x_flushed, x_drafted, x_height, x_time, x_foundAt, x_recordStream, x_recordType, x_recordVersion, x_recordValue, x_originProjection, x_originPosition, x_originInstruction, x_joined, x_removed, x_eventCount, x_cutLevel, x_draftType, x_draftValue, x_ops, x_arguments, x_programLength, x_states, x_noted, x_stack, x_metHeight, x_groupType, x_cursor, x_keptCursor, x_parked, x_rowCount, x_rowPosition, x_rowTimes, x_rowDue) => wX_run_11 post (nI p) (nI a) (nI (11 * p + 2 * s)) n5 (nI (i + 1)) (nI (x5 + 1)) x_records x_removedCount x_flushed x_drafted x_height x_time x_foundAt x_recordStream x_recordType x_recordVersion x_recordValue x_originProjection x_originPosition x_originInstruction x_joined x_removed x_eventCount x_cutLevel x_draftType x_draftValue x_ops x_arguments x_programLength x_states x_noted x_stack x_metHeight x_groupType x_cursor x_keptCursor x_parked x_rowCount x_rowPosition x_rowTimes x_rowDue) → match u with | (x_records, x_removedCount, x_flushed, x_drafted, x_height, x_time, x_foundAt, x_recordStream, x_recordType, x_recordVersion, x_recordValue, x_originProjection, x_originPosition, x_originInstruction, x_joined, x_removed, x_eventCount, x_cutLevel, x_draftType, x_draftValue, x_ops, x_arguments, x_programLength, x_states, x_noted, x_stack, x_metHeight, x_groupType, x_cursor, x_keptCursor, x_parked, x_rowCount, x_rowPosition, x_rowTimes, x_rowDue) => wX_run_11 post (nI p) (nI a) (nI (11 * p + 2 * s)) (n5 + 1) (nI i) (nI x5) x_records x_removedCount x_flushed x_drafted x_height x_time x_foundAt x_recordStream x_recordType x_recordVersion x_recordValue x_originProjection x_originPosition x_originInstruction x_joined x_removed x_eventCount x_cutLevel x_draftType x_draftValue x_ops x_arguments x_programLength x_states x_noted x_stack x_metHeight x_groupType x_cursor x_keptCursor x_parked x_rowCount x_rowPosition x_rowTimes x_rowDue) ∧
    (∀ (post : Int32 → SY → Prop) (n5 : Nat), (match v' with | (y_count, y_flushed, y_calls, y_drafted, y_top, y_time, y_isCut, y_removed, y_stream, y_type, y_from, y_by, y_value, y_version, y_on, y_call, y_draftType, y_draftValue, y_op, y_with, y_length, y_height, y_torn, y_stack, y_position, y_cells, y_noted, y_wanted, y_formed, y_cursor, y_parked, y_where, y_often, y_due, y_many, y_found) => wY_fold_17 post (nI p) (nI a) n5 (nI (i + 1)) y_count y_flushed y_calls y_drafted y_top y_time y_isCut y_removed y_stream y_type y_from y_by y_value y_version y_on y_call y_draftType y_draftValue y_op y_with y_length y_height y_torn y_stack y_position y_cells y_noted y_wanted y_formed y_cursor y_parked y_where y_often y_due y_many y_found) → match v with | (y_count, y_flushed, y_calls, y_drafted, y_top, y_time, y_isCut, y_removed, y_stream, y_type, y_from, y_by, y_value, y_version, y_on, y_call, y_draftType, y_draftValue, y_op, y_with, y_length, y_height, y_torn, y_stack, y_position, y_cells, y_noted, y_wanted, y_formed, y_cursor, y_parked, y_where, y_often, y_due, y_many, y_found) => wY_fold_17 post (nI p) (nI a) (n5 + 1) (nI i) y_count y_flushed y_calls y_drafted y_top y_time y_isCut y_removed y_stream y_type y_from y_by y_value y_version y_on y_call y_draftType y_draftValue y_op y_with y_length y_height y_torn y_stack y_position y_cells y_noted y_wanted y_formed y_cursor y_parked y_where y_often y_due y_many y_found)
/-- EMIT is FULL -/
def es_EF (f d : Nat) (L : Nat → Nat) (p a s : Nat) (old : Nat → Int32) (Pg : (Nat → Int32) → (Nat → Int32) → Prop) (D c q i : Nat) (u : SX) (v : SY) : Prop :=
  ∃ (u' : SX) (v' : SY), es_Q c f d L q (es_rst u' (11 * p + 2 * s) (old (2 * s)) (old (2 * s + 1))) v' ∧
    (∀ (post : Int32 → SX → Prop) (n5 x5 : Nat), x5 < 14 → post 0 u' → match u with | (x_records, x_removedCount, x_flushed, x_drafted, x_height, x_time, x_foundAt, x_recordStream, x_recordType, x_recordVersion, x_recordValue, x_originProjection, x_originPosition, x_originInstruction, x_joined, x_removed, x_eventCount, x_cutLevel, x_draftType, x_draftValue, x_ops, x_arguments, x_programLength, x_states, x_noted, x_stack, x_metHeight, x_groupType, x_cursor, x_keptCursor, x_parked, x_rowCount, x_rowPosition, x_rowTimes, x_rowDue) => wX_run_11 post (nI p) (nI a) (nI (11 * p + 2 * s)) (n5 + 1) (nI i) (nI x5) x_records x_removedCount x_flushed x_drafted x_height x_time x_foundAt x_recordStream x_recordType x_recordVersion x_recordValue x_originProjection x_originPosition x_originInstruction x_joined x_removed x_eventCount x_cutLevel x_draftType x_draftValue x_ops x_arguments x_programLength x_states x_noted x_stack x_metHeight x_groupType x_cursor x_keptCursor x_parked x_rowCount x_rowPosition x_rowTimes x_rowDue) ∧
    (∀ (post : Int32 → SY → Prop) (n5 : Nat), post 0 v' → match v with | (y_count, y_flushed, y_calls, y_drafted, y_top, y_time, y_isCut, y_removed, y_stream, y_type, y_from, y_by, y_value, y_version, y_on, y_call, y_draftType, y_draftValue, y_op, y_with, y_length, y_height, y_torn, y_stack, y_position, y_cells, y_noted, y_wanted, y_formed, y_cursor, y_parked, y_where, y_often, y_due, y_many, y_found) => wY_fold_17 post (nI p) (nI a) (n5 + 1) (nI i) y_count y_flushed y_calls y_drafted y_top y_time y_isCut y_removed y_stream y_type y_from y_by y_value y_version y_on y_call y_draftType y_draftValue y_op y_with y_length y_height y_torn y_stack y_position y_cells y_noted y_wanted y_formed y_cursor y_parked y_where y_often y_due y_many y_found)
theorem ey_preE {post : Int32 → SY → Prop} {n5 : Nat} (hp3 : p < 3) (hn : n ≤ 14) (hpl : y_length p = nI n) (hi : i < n) (ho : y_op (14 * p + i) = nI 12) (hcc : y_with (14 * p + i) = cc) (h0 : 0 < h) (hh : h ≤ 4)
    (hp : wpY_emit (fun r u => match u with | (y_count, y_flushed, y_calls, y_drafted, y_top, y_time, y_isCut, y_removed, y_stream, y_type, y_from, y_by, y_value, y_version, y_on, y_call, y_draftType, y_draftValue, y_op, y_with, y_length, y_height, y_torn, y_stack, y_position, y_cells, y_noted, y_wanted, y_formed, y_cursor, y_parked, y_where, y_often, y_due, y_many, y_found) => (r = 0 → wpY_copyCells (fun u => match u with | (y_count, y_flushed, y_calls, y_drafted, y_top, y_time, y_isCut, y_removed, y_stream, y_type, y_from, y_by, y_value, y_version, y_on, y_call, y_draftType, y_draftValue, y_op, y_with, y_length, y_height, y_torn, y_stack, y_position, y_cells, y_noted, y_wanted, y_formed, y_cursor, y_parked, y_where, y_often, y_due, y_many, y_found) => post 0 (y_count, y_flushed, y_calls, y_drafted, y_top, y_time, y_isCut, y_removed, y_stream, y_type, y_from, y_by, y_value, y_version, y_on, y_call, y_draftType, y_draftValue, y_op, y_with, y_length, y_height, y_torn, y_stack, y_position, y_cells, y_noted, y_wanted, y_formed, y_cursor, y_parked, y_where, y_often, y_due, y_many, y_found)) (y_count, y_flushed, y_calls, y_drafted, y_top, y_time, y_isCut, y_removed, y_stream, y_type, y_from, y_by, y_value, y_version, y_on, y_call, y_draftType, y_draftValue, y_op, y_with, y_length, y_height, y_torn, y_stack, y_position, y_cells, y_noted, y_wanted, y_formed, y_cursor, y_parked, y_where, y_often, y_due, y_many, y_found) 90 (10 * nI p)) ∧ (¬ r = 0 → ∀ x3 : Int32, x3 = nI i + 1 → wY_fold_17 post (nI p) (nI a) n5 x3 y_count y_flushed y_calls y_drafted y_top y_time y_isCut y_removed y_stream y_type y_from y_by y_value y_version y_on y_call y_draftType y_draftValue y_op y_with y_length y_height y_torn y_stack y_position y_cells y_noted y_wanted y_formed y_cursor y_parked y_where y_often y_due y_many y_found)) (y_count, y_flushed, y_calls, y_drafted, nI (h - 1), y_time, y_isCut, y_removed, y_stream, y_type, y_from, y_by, y_value, y_version, y_on, y_call, y_draftType, y_draftValue, y_op, y_with, y_length, y_height, y_torn, y_stack, y_position, y_cells, y_noted, y_wanted, y_formed, y_cursor, y_parked, y_where, y_often, y_due, y_many, y_found) (nI p) (nI a) (nI i) cc (y_stack (h - 1))) : wY_fold_17 post (nI p) (nI a) (n5 + 1) (nI i) y_count y_flushed y_calls y_drafted (nI h) y_time y_isCut y_removed y_stream y_type y_from y_by y_value y_version y_on y_call y_draftType y_draftValue y_op y_with y_length y_height y_torn y_stack y_position y_cells y_noted y_wanted y_formed y_cursor y_parked y_where y_often y_due y_many y_found := by
  have cp : (nI p).toNatClampNeg = p := nI_clamp (by omega)
  have v56 : vp_in (nI (14 * p + i)) 56 := vp_in_nI (by omega) (by decide)
  have em : nI h - 1 = nI (h - 1) := es_s1 h0
  have vm : vp_in (nI h - 1) 8 := by rw [em]; exact vp_in_nI (by omega) (by decide)
  have cm : (nI h - 1).toNatClampNeg = h - 1 := by rw [em, nI_clamp (by omega)]
  refine ⟨vp_in_nI (by omega) (by decide), br_f (by rw [cp, hpl]; exact nI_ge hi (by omega)) (nm_r (e' := nI (14 * p + i)) (by rw [es_14y, nI_add]) ⟨v56, ?_⟩)⟩
  rw [nI_clamp (by omega), ho, hcc]
  exact br_f (by decide) ⟨v56, br_t rfl (nm_r em ⟨vm, nm_r (e' := y_stack (h - 1)) (by rw [cm]) ⟨v56, hp⟩⟩)⟩
theorem em_emitS (H : es_Rn f d L p a s old Pg D h c q (x_records, x_removedCount, x_flushed, x_drafted, nI h, x_time, x_foundAt, x_recordStream, x_recordType, x_recordVersion, x_recordValue, x_originProjection, x_originPosition, x_originInstruction, x_joined, x_removed, x_eventCount, x_cutLevel, x_draftType, x_draftValue, x_ops, x_arguments, x_programLength, x_states, x_noted, x_stack, x_metHeight, x_groupType, x_cursor, x_keptCursor, x_parked, x_rowCount, x_rowPosition, x_rowTimes, x_rowDue) (y_count, y_flushed, y_calls, y_drafted, nI h, y_time, y_isCut, y_removed, y_stream, y_type, y_from, y_by, y_value, y_version, y_on, y_call, y_draftType, y_draftValue, y_op, y_with, y_length, y_height, y_torn, y_stack, y_position, y_cells, y_noted, y_wanted, y_formed, y_cursor, y_parked, y_where, y_often, y_due, y_many, y_found)) (hp3 : p < 3) (hs5 : s < 5) (hLp : 0 < L p) (hi : i < L p) (h0 : 0 < h) (hh : h ≤ 4) (hD : D ≤ 2 ^ 29) (ho : y_op (14 * p + i) = nI 12) (hcc : y_with (14 * p + i) = cc) (hfit : es_fit 12 cc i (L p)) :
    es_EC f d L p a s old Pg D (h - 1) i (x_records, x_removedCount, x_flushed, x_drafted, nI h, x_time, x_foundAt, x_recordStream, x_recordType, x_recordVersion, x_recordValue, x_originProjection, x_originPosition, x_originInstruction, x_joined, x_removed, x_eventCount, x_cutLevel, x_draftType, x_draftValue, x_ops, x_arguments, x_programLength, x_states, x_noted, x_stack, x_metHeight, x_groupType, x_cursor, x_keptCursor, x_parked, x_rowCount, x_rowPosition, x_rowTimes, x_rowDue) (y_count, y_flushed, y_calls, y_drafted, nI h, y_time, y_isCut, y_removed, y_stream, y_type, y_from, y_by, y_value, y_version, y_on, y_call, y_draftType, y_draftValue, y_op, y_with, y_length, y_height, y_torn, y_stack, y_position, y_cells, y_noted, y_wanted, y_formed, y_cursor, y_parked, y_where, y_often, y_due, y_many, y_found) ∨ es_EF f d L p a s old Pg D c q i (x_records, x_removedCount, x_flushed, x_drafted, nI h, x_time, x_foundAt, x_recordStream, x_recordType, x_recordVersion, x_recordValue, x_originProjection, x_originPosition, x_originInstruction, x_joined, x_removed, x_eventCount, x_cutLevel, x_draftType, x_draftValue, x_ops, x_arguments, x_programLength, x_states, x_noted, x_stack, x_metHeight, x_groupType, x_cursor, x_keptCursor, x_parked, x_rowCount, x_rowPosition, x_rowTimes, x_rowDue) (y_count, y_flushed, y_calls, y_drafted, nI h, y_time, y_isCut, y_removed, y_stream, y_type, y_from, y_by, y_value, y_version, y_on, y_call, y_draftType, y_draftValue, y_op, y_with, y_length, y_height, y_torn, y_stack, y_position, y_cells, y_noted, y_wanted, y_formed, y_cursor, y_parked, y_where, y_often, y_due, y_many, y_found) := by
  obtain ⟨⟨hLg, hDr, hP, hS, hG, hF⟩, hq, _, _, hst, hsv, hot, hpo, hac, hcut, hstr, hpg⟩ := H
  have hlen := hP.2.1 p
  have hoa := hP.2.2.1 p i (by omega) hi
  have hxl : x_programLength p = nI (L p) := by rw [← hP.1]; exact hlen.1
  have ev : y_stack (h - 1) = x_stack (h - 1) := (hst (h - 1) (by omega)).symm
  obtain ⟨e, he, ee⟩ := (es_fit_e rfl).mp hfit
  subst ee
  have hL0 := hLg
  obtain ⟨rfl, rfl, rfl, rfl, rfl, rfl, rfl, rfl, rfl, rfl, rfl, rfl, rfl, hl⟩ := hLg
  have hc2 : c ≤ 2000 := hl.1.1
  by_cases hem : ∃ k, k < c ∧ es_em y_from y_on x_originInstruction p a i k
  · refine Or.inl ⟨c, q, (nI c, nI (es_rc y_removed c), nI f, x_drafted, nI (h - 1), x_time, x_foundAt, y_stream, es_T y_isCut y_type, es_V y_isCut y_version y_value, es_W y_isCut y_value, y_from, y_on, x_originInstruction, x_joined, y_removed, x_eventCount, x_cutLevel, x_draftType, x_draftValue, x_ops, x_arguments, x_programLength, x_states, x_noted, x_stack, x_metHeight, x_groupType, x_cursor, x_keptCursor, x_parked, x_rowCount, x_rowPosition, x_rowTimes, x_rowDue), (nI c, nI f, nI q, y_drafted, nI (h - 1), y_time, y_isCut, y_removed, y_stream, y_type, y_from, y_by, y_value, y_version, y_on, y_call, y_draftType, y_draftValue, y_op, y_with, y_length, y_height, y_torn, y_stack, y_position, y_cells, y_noted, y_wanted, y_formed, y_cursor, y_parked, y_where, y_often, y_due, y_many, y_found), ⟨⟨hL0, hDr, hP, hS, hG, hF⟩, hq, rfl, rfl, fun j hj => hst j (by omega), hsv, hot, hpo, hac, hcut, hstr, hpg⟩, fun post n5 x5 h5 hr => ?_, fun post n5 hr => ?_⟩
    · exact ex_preJ hp3 hlen.2 hxl hi h5 (hoa.1.trans ho) (hoa.2.trans hcc) (fun y => absurd y (by omega)) (fun y => absurd y (by omega)) (fun y => absurd y (by omega)) (fun _ => ex_emit hl hp3 hac he h0 hh (fun _ => br_f (by decide) (nm_r (nI_1 _) hr)) (fun z => absurd hem z) (fun z => absurd hem z)) (by omega) (by omega)
    · exact ey_preE hp3 hlen.2 hlen.1 hi ho hcc h0 hh (ey_emit hl hp3 (by omega) he (by omega) (fun _ => br_f (by decide) (nm_r (nI_1 _) hr)) (fun z => absurd hem z) (fun z => absurd hem z))
  · by_cases room : c - es_rc y_removed c + 1 ≤ 40 ∧ c + 1 ≤ 2000
    · have hQ0 : es_Q c f d L (q + 1) (nI c, nI (es_rc y_removed c), nI f, x_drafted, nI (h - 1), x_time, x_foundAt, y_stream, es_T y_isCut y_type, es_V y_isCut y_version y_value, es_W y_isCut y_value, y_from, y_on, x_originInstruction, x_joined, y_removed, x_eventCount, x_cutLevel, x_draftType, x_draftValue, x_ops, x_arguments, x_programLength, x_states, x_noted, x_stack, x_metHeight, x_groupType, x_cursor, x_keptCursor, x_parked, x_rowCount, x_rowPosition, x_rowTimes, x_rowDue) (nI c, nI f, nI (q + 1), y_drafted, nI (h - 1), y_time, y_isCut, y_removed, y_stream, y_type, y_from, y_by, y_value, y_version, y_on, y_call, y_draftType, y_draftValue, y_op, y_with, y_length, y_height, y_torn, y_stack, y_position, y_cells, y_noted, y_wanted, y_formed, y_cursor, y_parked, y_where, y_often, y_due, y_many, y_found) := ⟨⟨rfl, rfl, rfl, rfl, rfl, rfl, rfl, rfl, rfl, rfl, rfl, rfl, rfl, es_Log_q hl (by omega)⟩, hDr, hP, hS, hG, hF⟩
      have hQ := es_Q_add (b := 0) (v := x_stack (h - 1)) (fo := nI p) (ov := nI a) (bv := nI i) (ev := nI i) (jv := 0) (byi' := upd y_by c (nI i)) (s := e / 8) (t := e % 8) (ec' := upd x_eventCount (e / 8) (x_eventCount (e / 8) + 1)) (cl' := x_cutLevel) hQ0 (by omega) (by omega) (by omega) (by omega) (fun j hj => pk_un (by omega)) pk_us (Or.inr ⟨rfl, rfl, a, hac, rfl⟩) (fun h0 => es_Log_fresh hl (by omega) h0)
        (fun s' hs' => by
          by_cases w : s' = e / 8
          · subst w; rw [pk_us, if_pos ⟨rfl, rfl⟩]
          · rw [pk_un w, if_neg (fun z => w z.2)])
        (fun s' hs' => by rw [if_neg (fun z => z.1 rfl)])
      simp only [if_true] at hQ
      refine Or.inl ⟨c + 1, q + 1, _, _, ⟨hQ, by omega, rfl, rfl, fun j hj => hst j (by omega), hsv, hot, hpo, by omega, ?_, ?_, hpg⟩, fun post n5 x5 h5 hr => ?_, fun post n5 hr => ?_⟩
      · rw [pk_un (by omega)]; exact hcut
      · rw [pk_un (by omega)]; exact hstr
      · exact ex_preJ hp3 hlen.2 hxl hi h5 (hoa.1.trans ho) (hoa.2.trans hcc) (fun y => absurd y (by omega)) (fun y => absurd y (by omega)) (fun y => absurd y (by omega)) (fun _ => ex_emit hl hp3 hac he h0 hh (fun z => absurd z hem) (fun _ z => absurd room z) (fun _ _ _ => br_f (by decide) (nm_r (nI_1 _) hr))) (by omega) (by omega)
      · refine ey_preE hp3 hlen.2 hlen.1 hi ho hcc h0 hh ?_
        rw [ev]
        exact ey_emit hl hp3 (by omega) he (by omega) (fun z => absurd z hem) (fun _ z => absurd room z) (fun _ _ _ => br_f (by decide) (nm_r (nI_1 _) hr))
    · refine Or.inr ⟨(nI c, nI (es_rc y_removed c), nI f, x_drafted, nI (h - 1), x_time, x_foundAt, y_stream, es_T y_isCut y_type, es_V y_isCut y_version y_value, es_W y_isCut y_value, y_from, y_on, x_originInstruction, x_joined, y_removed, x_eventCount, x_cutLevel, x_draftType, x_draftValue, x_ops, x_arguments, x_programLength, x_states, x_noted, x_stack, x_metHeight, x_groupType, x_cursor, x_keptCursor, x_parked, x_rowCount, x_rowPosition, x_rowTimes, x_rowDue), (nI c, nI f, nI q, y_drafted, nI (h - 1), y_time, y_isCut, y_removed, y_stream, y_type, y_from, y_by, y_value, y_version, y_on, y_call, y_draftType, y_draftValue, y_op, y_with, y_length, y_height, y_torn, y_stack, y_position, es_cpy y_cells (10 * p) 90 10, y_noted, y_wanted, y_formed, y_cursor, y_parked, y_where, y_often, y_due, y_many, y_found), ⟨hL0, hDr, hP, fun m hm hml => ?_, hG, hF⟩, fun post n5 x5 h5 hr => ?_, fun post n5 hr => ?_⟩
      · obtain ⟨a1, a2, a3, a4⟩ := hS m hm hml
        refine ⟨?_, es_Eq_c a2 (fun k hk => ?_) rfl (fun k hk => es_cpy_o (by omega)), a3, fun z => es_Eq_c (a4 z) (fun k hk => ?_) rfl (fun k hk => es_cpy_o (by omega))⟩
        · by_cases w : m = p
          · subst w
            obtain ⟨⟨b, hb, b1, b2⟩, b3⟩ := a1
            refine ⟨⟨b, hb, ?_, b2⟩, fun k hk => ?_⟩
            · rw [pk_un (by omega), pk_un (by omega)]; exact b1
            · rw [es_cpy_i hk, hsv k hk]
              by_cases w1 : k = 2 * s + 1
              · rw [w1, ← Nat.add_assoc, pk_us]
              · rw [pk_un (by omega)]
                by_cases w2 : k = 2 * s
                · rw [w2, pk_us]
                · rw [pk_un (by omega)]; exact hot k hk w2 w1
          · refine es_Eq_c a1 (fun k hk => ?_) rfl (fun k hk => es_cpy_o (by omega))
            rw [pk_un (by omega), pk_un (by omega)]
        · rw [pk_un (by omega), pk_un (by omega)]
        · rw [pk_un (by omega), pk_un (by omega)]
      · exact ex_preJ hp3 hlen.2 hxl hi h5 (hoa.1.trans ho) (hoa.2.trans hcc) (fun y => absurd y (by omega)) (fun y => absurd y (by omega)) (fun y => absurd y (by omega)) (fun _ => ex_emit hl hp3 hac he h0 hh (fun z => absurd z hem) (fun _ _ => br_t rfl hr) (fun _ z1 z2 => absurd ⟨z1, z2⟩ room)) (by omega) (by omega)
      · refine ey_preE hp3 hlen.2 hlen.1 hi ho hcc h0 hh (ey_emit hl hp3 (by omega) he (by omega) (fun z => absurd z hem) (fun _ _ => br_t rfl ?_) (fun _ z1 z2 => absurd ⟨z1, z2⟩ room))
        rw [es_10]
        exact ey_copyCells (a := 90) (b := 10 * p) (by omega) (by omega) (by omega) hr
end
end
section
section
/-! a program runs on an event -/
variable {x_records x_removedCount x_flushed x_drafted x_height x_time x_foundAt : Int32} {x_recordStream x_recordType x_recordVersion x_recordValue x_originProjection x_originPosition x_originInstruction x_joined x_removed x_eventCount x_cutLevel x_draftType x_draftValue x_ops x_arguments x_programLength x_states x_noted x_stack x_metHeight x_groupType x_cursor x_keptCursor x_parked x_rowCount x_rowPosition x_rowTimes x_rowDue : Nat → Int32} {y_count y_flushed y_calls y_drafted y_top y_time : Int32} {y_isCut y_removed y_stream y_type y_from y_by y_value y_version y_on y_call y_draftType y_draftValue y_op y_with y_length y_height y_torn y_stack y_position y_cells y_noted y_wanted y_formed y_cursor y_parked y_where y_often y_due y_many y_found : Nat → Int32} {c f q : Nat} {cut rm str ty fr byi val ver onn call oi jn ec cl : Nat → Int32} {d : Nat} {L : Nat → Nat} {p a s D : Nat} {old : Nat → Int32} {Pg : (Nat → Int32) → (Nat → Int32) → Prop}
/-- how a run ends: well, or FULL -/
def es_Out (f d : Nat) (L : Nat → Nat) (p a s : Nat) (old : Nat → Int32) (Pg : (Nat → Int32) → (Nat → Int32) → Prop) (D m i x5 : Nat) (u : SX) (v : SY) : Prop :=
  (∃ (c' q' : Nat) (u' : SX) (v' : SY), es_Q c' f d L q' u' v' ∧ q' + 2000 = c' + D ∧ es_psn u' p = nI a ∧ a < c' ∧
    (∀ (post : Int32 → SX → Prop) (n5 : Nat), m < n5 → post 1 u' → match u with | (x_records, x_removedCount, x_flushed, x_drafted, x_height, x_time, x_foundAt, x_recordStream, x_recordType, x_recordVersion, x_recordValue, x_originProjection, x_originPosition, x_originInstruction, x_joined, x_removed, x_eventCount, x_cutLevel, x_draftType, x_draftValue, x_ops, x_arguments, x_programLength, x_states, x_noted, x_stack, x_metHeight, x_groupType, x_cursor, x_keptCursor, x_parked, x_rowCount, x_rowPosition, x_rowTimes, x_rowDue) => wX_run_11 post (nI p) (nI a) (nI (11 * p + 2 * s)) n5 (nI i) (nI x5) x_records x_removedCount x_flushed x_drafted x_height x_time x_foundAt x_recordStream x_recordType x_recordVersion x_recordValue x_originProjection x_originPosition x_originInstruction x_joined x_removed x_eventCount x_cutLevel x_draftType x_draftValue x_ops x_arguments x_programLength x_states x_noted x_stack x_metHeight x_groupType x_cursor x_keptCursor x_parked x_rowCount x_rowPosition x_rowTimes x_rowDue) ∧
    (∀ (post : Int32 → SY → Prop) (n5 : Nat), m < n5 → post 1 v' → match v with | (y_count, y_flushed, y_calls, y_drafted, y_top, y_time, y_isCut, y_removed, y_stream, y_type, y_from, y_by, y_value, y_version, y_on, y_call, y_draftType, y_draftValue, y_op, y_with, y_length, y_height, y_torn, y_stack, y_position, y_cells, y_noted, y_wanted, y_formed, y_cursor, y_parked, y_where, y_often, y_due, y_many, y_found) => wY_fold_17 post (nI p) (nI a) n5 (nI i) y_count y_flushed y_calls y_drafted y_top y_time y_isCut y_removed y_stream y_type y_from y_by y_value y_version y_on y_call y_draftType y_draftValue y_op y_with y_length y_height y_torn y_stack y_position y_cells y_noted y_wanted y_formed y_cursor y_parked y_where y_often y_due y_many y_found)) ∨
  (∃ (c' q' : Nat) (u' : SX) (v' : SY), es_Q c' f d L q' (es_rst u' (11 * p + 2 * s) (old (2 * s)) (old (2 * s + 1))) v' ∧ q' + 2000 = c' + D ∧
    (∀ (post : Int32 → SX → Prop) (n5 : Nat), m < n5 → post 0 u' → match u with | (x_records, x_removedCount, x_flushed, x_drafted, x_height, x_time, x_foundAt, x_recordStream, x_recordType, x_recordVersion, x_recordValue, x_originProjection, x_originPosition, x_originInstruction, x_joined, x_removed, x_eventCount, x_cutLevel, x_draftType, x_draftValue, x_ops, x_arguments, x_programLength, x_states, x_noted, x_stack, x_metHeight, x_groupType, x_cursor, x_keptCursor, x_parked, x_rowCount, x_rowPosition, x_rowTimes, x_rowDue) => wX_run_11 post (nI p) (nI a) (nI (11 * p + 2 * s)) n5 (nI i) (nI x5) x_records x_removedCount x_flushed x_drafted x_height x_time x_foundAt x_recordStream x_recordType x_recordVersion x_recordValue x_originProjection x_originPosition x_originInstruction x_joined x_removed x_eventCount x_cutLevel x_draftType x_draftValue x_ops x_arguments x_programLength x_states x_noted x_stack x_metHeight x_groupType x_cursor x_keptCursor x_parked x_rowCount x_rowPosition x_rowTimes x_rowDue) ∧
    (∀ (post : Int32 → SY → Prop) (n5 : Nat), m < n5 → post 0 v' → match v with | (y_count, y_flushed, y_calls, y_drafted, y_top, y_time, y_isCut, y_removed, y_stream, y_type, y_from, y_by, y_value, y_version, y_on, y_call, y_draftType, y_draftValue, y_op, y_with, y_length, y_height, y_torn, y_stack, y_position, y_cells, y_noted, y_wanted, y_formed, y_cursor, y_parked, y_where, y_often, y_due, y_many, y_found) => wY_fold_17 post (nI p) (nI a) n5 (nI i) y_count y_flushed y_calls y_drafted y_top y_time y_isCut y_removed y_stream y_type y_from y_by y_value y_version y_on y_call y_draftType y_draftValue y_op y_with y_length y_height y_torn y_stack y_position y_cells y_noted y_wanted y_formed y_cursor y_parked y_where y_often y_due y_many y_found))
/-- what follows a step -/
theorem es_Out_sp {h' c q n i o m x5 : Nat} {cc : Int32} {u : SX} {v : SY} (hS : es_Sp f d L p a s old Pg D h' c q n i o cc u v) (h5 : x5 < 14) (hm : i + m = n)
    (hn : ∀ i' u' v', i < i' → i' ≤ n → es_Rn f d L p a s old Pg D h' c q u' v' → ((i' = i + 1 ∧ o ≠ 11) ∨ ((o = 10 ∨ o = 11) ∧ cc = nI i')) → es_Out f d L p a s old Pg D (n - i') i' (x5 + 1) u' v') (hi : i < n) : es_Out f d L p a s old Pg D m i x5 u v := by
  obtain ⟨i', u', v', hR, hw, hX, hY⟩ := hS
  have hii : i < i' ∧ i' ≤ n := by
    rcases hw with w | w
    · omega
    · exact w.2.2
  rcases hn i' u' v' hii.1 hii.2 hR (hw.imp id (fun w => ⟨w.1, w.2.1⟩)) with ⟨c', q', u2, v2, k1, k2, k3, k4, k5, k6⟩ | ⟨c', q', u2, v2, k1, k2, k5, k6⟩
  · refine Or.inl ⟨c', q', u2, v2, k1, k2, k3, k4, fun post n5 hn5 hp => ?_, fun post n5 hn5 hp => ?_⟩
    · obtain ⟨n6, rfl⟩ : ∃ n6, n5 = n6 + 1 := ⟨n5 - 1, by omega⟩
      exact hX post n6 x5 h5 (k5 post n6 (by omega) hp)
    · obtain ⟨n6, rfl⟩ : ∃ n6, n5 = n6 + 1 := ⟨n5 - 1, by omega⟩
      exact hY post n6 (k6 post n6 (by omega) hp)
  · refine Or.inr ⟨c', q', u2, v2, k1, k2, fun post n5 hn5 hp => ?_, fun post n5 hn5 hp => ?_⟩
    · obtain ⟨n6, rfl⟩ : ∃ n6, n5 = n6 + 1 := ⟨n5 - 1, by omega⟩
      exact hX post n6 x5 h5 (k5 post n6 (by omega) hp)
    · obtain ⟨n6, rfl⟩ : ∃ n6, n5 = n6 + 1 := ⟨n5 - 1, by omega⟩
      exact hY post n6 (k6 post n6 (by omega) hp)
theorem es_Out_em {h' c q n i m x5 : Nat} {u : SX} {v : SY} (hS : es_EC f d L p a s old Pg D h' i u v ∨ es_EF f d L p a s old Pg D c q i u v) (hq : q + 2000 = c + D) (h5 : x5 < 14) (hm : i + m = n) (hi : i < n)
    (hn : ∀ c' q' u' v', es_Rn f d L p a s old Pg D h' c' q' u' v' → es_Out f d L p a s old Pg D (n - (i + 1)) (i + 1) (x5 + 1) u' v') : es_Out f d L p a s old Pg D m i x5 u v := by
  rcases hS with ⟨c', q', u', v', hR, hX, hY⟩ | ⟨u', v', hQ, hX, hY⟩
  · rcases hn c' q' u' v' hR with ⟨c', q', u2, v2, k1, k2, k3, k4, k5, k6⟩ | ⟨c', q', u2, v2, k1, k2, k5, k6⟩
    · refine Or.inl ⟨c', q', u2, v2, k1, k2, k3, k4, fun post n5 hn5 hp => ?_, fun post n5 hn5 hp => ?_⟩
      · obtain ⟨n6, rfl⟩ : ∃ n6, n5 = n6 + 1 := ⟨n5 - 1, by omega⟩
        exact hX post n6 x5 h5 (k5 post n6 (by omega) hp)
      · obtain ⟨n6, rfl⟩ : ∃ n6, n5 = n6 + 1 := ⟨n5 - 1, by omega⟩
        exact hY post n6 (k6 post n6 (by omega) hp)
    · refine Or.inr ⟨c', q', u2, v2, k1, k2, fun post n5 hn5 hp => ?_, fun post n5 hn5 hp => ?_⟩
      · obtain ⟨n6, rfl⟩ : ∃ n6, n5 = n6 + 1 := ⟨n5 - 1, by omega⟩
        exact hX post n6 x5 h5 (k5 post n6 (by omega) hp)
      · obtain ⟨n6, rfl⟩ : ∃ n6, n5 = n6 + 1 := ⟨n5 - 1, by omega⟩
        exact hY post n6 (k6 post n6 (by omega) hp)
  · refine Or.inr ⟨c, q, u', v', hQ, hq, fun post n5 hn5 hp => ?_, fun post n5 hn5 hp => ?_⟩
    · obtain ⟨n6, rfl⟩ : ∃ n6, n5 = n6 + 1 := ⟨n5 - 1, by omega⟩
      exact hX post n6 x5 h5 hp
    · obtain ⟨n6, rfl⟩ : ∃ n6, n5 = n6 + 1 := ⟨n5 - 1, by omega⟩
      exact hY post n6 hp
/-- the program is at its end -/
theorem em_end {h c q x5 : Nat} (H : es_Rn f d L p a s old Pg D h c q (x_records, x_removedCount, x_flushed, x_drafted, x_height, x_time, x_foundAt, x_recordStream, x_recordType, x_recordVersion, x_recordValue, x_originProjection, x_originPosition, x_originInstruction, x_joined, x_removed, x_eventCount, x_cutLevel, x_draftType, x_draftValue, x_ops, x_arguments, x_programLength, x_states, x_noted, x_stack, x_metHeight, x_groupType, x_cursor, x_keptCursor, x_parked, x_rowCount, x_rowPosition, x_rowTimes, x_rowDue) (y_count, y_flushed, y_calls, y_drafted, y_top, y_time, y_isCut, y_removed, y_stream, y_type, y_from, y_by, y_value, y_version, y_on, y_call, y_draftType, y_draftValue, y_op, y_with, y_length, y_height, y_torn, y_stack, y_position, y_cells, y_noted, y_wanted, y_formed, y_cursor, y_parked, y_where, y_often, y_due, y_many, y_found)) (hp3 : p < 3) (h5 : x5 ≤ 14) : es_Out f d L p a s old Pg D 0 (L p) x5 (x_records, x_removedCount, x_flushed, x_drafted, x_height, x_time, x_foundAt, x_recordStream, x_recordType, x_recordVersion, x_recordValue, x_originProjection, x_originPosition, x_originInstruction, x_joined, x_removed, x_eventCount, x_cutLevel, x_draftType, x_draftValue, x_ops, x_arguments, x_programLength, x_states, x_noted, x_stack, x_metHeight, x_groupType, x_cursor, x_keptCursor, x_parked, x_rowCount, x_rowPosition, x_rowTimes, x_rowDue) (y_count, y_flushed, y_calls, y_drafted, y_top, y_time, y_isCut, y_removed, y_stream, y_type, y_from, y_by, y_value, y_version, y_on, y_call, y_draftType, y_draftValue, y_op, y_with, y_length, y_height, y_torn, y_stack, y_position, y_cells, y_noted, y_wanted, y_formed, y_cursor, y_parked, y_where, y_often, y_due, y_many, y_found) := by
  obtain ⟨hQ, hq, _, _, hst, hsv, hot, hpo, hac, hcut, hstr, hpg⟩ := H
  have hlen := hQ.2.2.1.2.1 p
  have hxl : x_programLength p = nI (L p) := by rw [← hQ.2.2.1.1]; exact hlen.1
  have cp : (nI p).toNatClampNeg = p := nI_clamp (by omega)
  refine Or.inl ⟨c, q, _, _, hQ, hq, hpo, hac, fun post n5 hn5 hp => ?_, fun post n5 hn5 hp => ?_⟩
  · obtain ⟨n6, rfl⟩ : ∃ n6, n5 = n6 + 1 := ⟨n5 - 1, by omega⟩
    by_cases z : x5 = 14
    · exact br_t (nI_le (a := 14) (by omega) (by omega)) hp
    · exact br_f (nI_ge (b := 14) (by omega) (by decide)) ⟨vp_in_nI (by omega) (by decide), br_t (by rw [cp, hxl]; exact Int32.le_refl _) hp⟩
  · obtain ⟨n6, rfl⟩ : ∃ n6, n5 = n6 + 1 := ⟨n5 - 1, by omega⟩
    exact ⟨vp_in_nI (by omega) (by decide), br_t (by rw [cp, hlen.1]; exact Int32.le_refl _) hp⟩
theorem em_run {M yop ywi : Nat → Int32} (hp3 : p < 3) (hs5 : s < 5) (hLp : 0 < L p) (hD : D ≤ 2 ^ 29)
    (hM : ∀ i h, i < L p → h ≤ 4 → M i = nI h → es_Ins (L p) (fun i => yop (14 * p + i)) (fun i => ywi (14 * p + i)) M False i h) :
    ∀ m i x5 h c q (u : SX) (v : SY), i + m = L p → L p ≤ 14 → x5 ≤ i → h ≤ 4 → (i < L p → M i = nI h) → es_Rn f d L p a s old (fun o w => o = yop ∧ w = ywi) D h c q u v → es_Out f d L p a s old (fun o w => o = yop ∧ w = ywi) D m i x5 u v := by
  intro m
  induction m using Nat.strongRecOn with
  | ind m ih =>
    intro i x5 h c q u v hm h14 h5 hh hMi hR
    obtain ⟨x_records, x_removedCount, x_flushed, x_drafted, x_height, x_time, x_foundAt, x_recordStream, x_recordType, x_recordVersion, x_recordValue, x_originProjection, x_originPosition, x_originInstruction, x_joined, x_removed, x_eventCount, x_cutLevel, x_draftType, x_draftValue, x_ops, x_arguments, x_programLength, x_states, x_noted, x_stack, x_metHeight, x_groupType, x_cursor, x_keptCursor, x_parked, x_rowCount, x_rowPosition, x_rowTimes, x_rowDue⟩ := u
    obtain ⟨y_count, y_flushed, y_calls, y_drafted, y_top, y_time, y_isCut, y_removed, y_stream, y_type, y_from, y_by, y_value, y_version, y_on, y_call, y_draftType, y_draftValue, y_op, y_with, y_length, y_height, y_torn, y_stack, y_position, y_cells, y_noted, y_wanted, y_formed, y_cursor, y_parked, y_where, y_often, y_due, y_many, y_found⟩ := v
    by_cases hin : i < L p
    · have hx := hR.2.2.1
      have hy := hR.2.2.2.1
      subst hx hy
      have hq := hR.2.1
      obtain ⟨e1, e2⟩ := hR.2.2.2.2.2.2.2.2.2.2.2
      obtain ⟨o, ho14, eo, hfit, htk, hb4, hj, hs⟩ := hM i h hin hh (hMi hin)
      have ho : y_op (14 * p + i) = nI o := by rw [e1]; exact eo
      have x14 : x5 < 14 := by omega
      have hcc : y_with (14 * p + i) = ywi (14 * p + i) := by rw [e2]
      have nx : ∀ c' q' i' u' v', i < i' → i' ≤ L p → es_Rn f d L p a s old (fun o w => o = yop ∧ w = ywi) D (h - es_tk o + es_gv o) c' q' u' v' → ((i' = i + 1 ∧ o ≠ 11) ∨ ((o = 10 ∨ o = 11) ∧ ywi (14 * p + i) = nI i')) → o ≠ 13 → es_Out f d L p a s old (fun o w => o = yop ∧ w = ywi) D (L p - i') i' (x5 + 1) u' v' := by
        intro c' q' i' u' v' g1 g2 gR gw g13
        refine ih (L p - i') (by omega) i' (x5 + 1) _ c' q' u' v' (by omega) h14 (by omega) hb4 (fun g => ?_) gR
        rcases gw with ⟨w1, w2⟩ | ⟨w1, w2⟩
        · subst w1
          rcases hs w2 g13 with y | ⟨_, y⟩
          · exact y
          · rcases y with y | y
            · exact absurd y (fun y => y)
            · omega
        · rcases hj i' w1 (by omega) w2 with y | ⟨_, y⟩
          · exact y
          · rcases y with y | y
            · exact absurd y (fun y => y)
            · omega
      have sp : es_Sp f d L p a s old (fun o w => o = yop ∧ w = ywi) D (h - es_tk o + es_gv o) c q (L p) i o (ywi (14 * p + i)) (x_records, x_removedCount, x_flushed, x_drafted, nI h, x_time, x_foundAt, x_recordStream, x_recordType, x_recordVersion, x_recordValue, x_originProjection, x_originPosition, x_originInstruction, x_joined, x_removed, x_eventCount, x_cutLevel, x_draftType, x_draftValue, x_ops, x_arguments, x_programLength, x_states, x_noted, x_stack, x_metHeight, x_groupType, x_cursor, x_keptCursor, x_parked, x_rowCount, x_rowPosition, x_rowTimes, x_rowDue) (y_count, y_flushed, y_calls, y_drafted, nI h, y_time, y_isCut, y_removed, y_stream, y_type, y_from, y_by, y_value, y_version, y_on, y_call, y_draftType, y_draftValue, y_op, y_with, y_length, y_height, y_torn, y_stack, y_position, y_cells, y_noted, y_wanted, y_formed, y_cursor, y_parked, y_where, y_often, y_due, y_many, y_found) → o ≠ 13 → es_Out f d L p a s old (fun o w => o = yop ∧ w = ywi) D m i x5 (x_records, x_removedCount, x_flushed, x_drafted, nI h, x_time, x_foundAt, x_recordStream, x_recordType, x_recordVersion, x_recordValue, x_originProjection, x_originPosition, x_originInstruction, x_joined, x_removed, x_eventCount, x_cutLevel, x_draftType, x_draftValue, x_ops, x_arguments, x_programLength, x_states, x_noted, x_stack, x_metHeight, x_groupType, x_cursor, x_keptCursor, x_parked, x_rowCount, x_rowPosition, x_rowTimes, x_rowDue) (y_count, y_flushed, y_calls, y_drafted, nI h, y_time, y_isCut, y_removed, y_stream, y_type, y_from, y_by, y_value, y_version, y_on, y_call, y_draftType, y_draftValue, y_op, y_with, y_length, y_height, y_torn, y_stack, y_position, y_cells, y_noted, y_wanted, y_formed, y_cursor, y_parked, y_where, y_often, y_due, y_many, y_found) :=
        fun hS g13 => es_Out_sp hS x14 hm (fun i' u' v' g1 g2 gR gw => nx c q i' u' v' g1 g2 gR gw g13) hin
      rcases es_o14 ho14 with e | e | e | e | e | e | e | e | e | e | e | e | e | e
      · subst e; exact sp (em_push hR hp3 hs5 hLp hin (by have : es_tk 0 = 0 := rfl; have : es_gv 0 = 1 := rfl; omega) ho hcc (by omega) hfit) (by omega)
      · subst e; exact sp (em_push hR hp3 hs5 hLp hin (by have : es_tk 1 = 0 := rfl; have : es_gv 1 = 1 := rfl; omega) ho hcc (by omega) hfit) (by omega)
      · subst e; exact sp (em_push hR hp3 hs5 hLp hin (by have : es_tk 2 = 0 := rfl; have : es_gv 2 = 1 := rfl; omega) ho hcc (by omega) hfit) (by omega)
      · subst e; exact sp (em_push hR hp3 hs5 hLp hin (by have : es_tk 3 = 0 := rfl; have : es_gv 3 = 1 := rfl; omega) ho hcc (by omega) hfit) (by omega)
      · subst e
        have t : es_tk 4 = 2 := rfl
        have g : es_gv 4 = 1 := rfl
        have eh : h - es_tk 4 + es_gv 4 = h - 1 := by omega
        rw [eh] at sp
        exact sp (em_bin hR hp3 hin (by omega) hh ho hcc (by omega) (by omega)) (by omega)
      · subst e
        have t : es_tk 5 = 2 := rfl
        have g : es_gv 5 = 1 := rfl
        have eh : h - es_tk 5 + es_gv 5 = h - 1 := by omega
        rw [eh] at sp
        exact sp (em_bin hR hp3 hin (by omega) hh ho hcc (by omega) (by omega)) (by omega)
      · subst e
        have t : es_tk 6 = 2 := rfl
        have g : es_gv 6 = 1 := rfl
        have eh : h - es_tk 6 + es_gv 6 = h - 1 := by omega
        rw [eh] at sp
        exact sp (em_bin hR hp3 hin (by omega) hh ho hcc (by omega) (by omega)) (by omega)
      · subst e
        have t : es_tk 7 = 2 := rfl
        have g : es_gv 7 = 1 := rfl
        have eh : h - es_tk 7 + es_gv 7 = h - 1 := by omega
        rw [eh] at sp
        exact sp (em_bin hR hp3 hin (by omega) hh ho hcc (by omega) (by omega)) (by omega)
      · subst e
        have t : es_tk 8 = 1 := rfl
        have g : es_gv 8 = 2 := rfl
        have eh : h - es_tk 8 + es_gv 8 = h + 1 := by omega
        rw [eh] at sp
        exact sp (em_dup hR hp3 hin (by omega) (by omega) ho hcc rfl) (by omega)
      · subst e
        have t : es_tk 9 = 1 := rfl
        have g : es_gv 9 = 0 := rfl
        have eh : h - es_tk 9 + es_gv 9 = h - 1 := by omega
        rw [eh] at sp
        exact sp (em_set hR hp3 hs5 hin (by omega) hh ho hcc rfl hfit) (by omega)
      · subst e
        have t : es_tk 10 = 1 := rfl
        have g : es_gv 10 = 0 := rfl
        have eh : h - es_tk 10 + es_gv 10 = h - 1 := by omega
        rw [eh] at sp
        exact sp (em_zero hR hp3 hin (by omega) hh ho hcc rfl hfit) (by omega)
      · subst e
        have t : es_tk 11 = 0 := rfl
        have g : es_gv 11 = 0 := rfl
        have eh : h - es_tk 11 + es_gv 11 = h := by omega
        rw [eh] at sp
        exact sp (em_jump hR hp3 hin ho hcc rfl hfit) (by omega)
      · subst e
        have t : es_tk 12 = 1 := rfl
        have g : es_gv 12 = 0 := rfl
        have eh : h - es_tk 12 + es_gv 12 = h - 1 := by omega
        rw [eh] at nx
        exact es_Out_em (em_emitS hR hp3 hs5 hLp hin (by omega) hh hD ho hcc hfit) hq x14 hm hin (fun c' q' u' v' gR => nx c' q' (i + 1) u' v' (by omega) (by omega) gR (Or.inl ⟨rfl, by omega⟩) (by omega))
      · subst e
        have hQ := hR.1
        have hpo := hR.2.2.2.2.2.2.2.1
        have hac := hR.2.2.2.2.2.2.2.2.1
        have hlen := hQ.2.2.1.2.1 p
        have hoa := hQ.2.2.1.2.2.1 p i (by omega) hin
        have hxl : x_programLength p = nI (L p) := by rw [← hQ.2.2.1.1]; exact hlen.1
        have cp : (nI p).toNatClampNeg = p := nI_clamp (by omega)
        refine Or.inl ⟨c, q, _, _, hQ, hq, hpo, hac, fun post n5 hn5 hp => ?_, fun post n5 hn5 hp => ?_⟩
        · obtain ⟨n6, rfl⟩ : ∃ n6, n5 = n6 + 1 + 1 := ⟨n5 - 2, by omega⟩
          refine ex_preJ hp3 hlen.2 hxl hin x14 (hoa.1.trans ho) (hoa.2.trans hcc) (fun _ => ?_) (fun y => absurd y (by omega)) (fun y => absurd y (by omega)) (fun y => absurd y (by omega)) (by omega) (by omega)
          by_cases z : x5 + 1 = 14
          · exact br_t (nI_le (a := 14) (by omega) (by omega)) hp
          · exact br_f (nI_ge (b := 14) (by omega) (by decide)) ⟨vp_in_nI (by omega) (by decide), br_t (by rw [cp, hxl]; exact Int32.le_refl _) hp⟩
        · obtain ⟨n6, rfl⟩ : ∃ n6, n5 = n6 + 1 := ⟨n5 - 1, by omega⟩
          have v56 : vp_in (nI (14 * p + i)) 56 := vp_in_nI (by omega) (by decide)
          refine ⟨vp_in_nI (by omega) (by decide), br_f (by rw [cp, hlen.1]; exact nI_ge hin (by omega)) (nm_r (e' := nI (14 * p + i)) (by rw [es_14y, nI_add]) ⟨v56, ?_⟩)⟩
          rw [nI_clamp (by omega), ho]
          exact br_t rfl hp
    · have e : i = L p := by omega
      have em : m = 0 := by omega
      subst e em
      exact em_end hR hp3 (by omega)
end
end
section
section
/-! work -/
variable {x_records x_removedCount x_flushed x_drafted x_height x_time x_foundAt : Int32} {x_recordStream x_recordType x_recordVersion x_recordValue x_originProjection x_originPosition x_originInstruction x_joined x_removed x_eventCount x_cutLevel x_draftType x_draftValue x_ops x_arguments x_programLength x_states x_noted x_stack x_metHeight x_groupType x_cursor x_keptCursor x_parked x_rowCount x_rowPosition x_rowTimes x_rowDue : Nat → Int32} {y_count y_flushed y_calls y_drafted y_top y_time : Int32} {y_isCut y_removed y_stream y_type y_from y_by y_value y_version y_on y_call y_draftType y_draftValue y_op y_with y_length y_height y_torn y_stack y_position y_cells y_noted y_wanted y_formed y_cursor y_parked y_where y_often y_due y_many y_found : Nat → Int32} {c f q : Nat} {cut rm str ty fr byi val ver onn call oi jn ec cl : Nat → Int32} {d : Nat} {L : Nat → Nat} {p a D : Nat}
theorem em_fold (H : es_Q c f d L q (x_records, x_removedCount, x_flushed, x_drafted, x_height, x_time, x_foundAt, x_recordStream, x_recordType, x_recordVersion, x_recordValue, x_originProjection, x_originPosition, x_originInstruction, x_joined, x_removed, x_eventCount, x_cutLevel, x_draftType, x_draftValue, x_ops, x_arguments, x_programLength, x_states, x_noted, x_stack, x_metHeight, x_groupType, x_cursor, x_keptCursor, x_parked, x_rowCount, x_rowPosition, x_rowTimes, x_rowDue) (y_count, y_flushed, y_calls, y_drafted, y_top, y_time, y_isCut, y_removed, y_stream, y_type, y_from, y_by, y_value, y_version, y_on, y_call, y_draftType, y_draftValue, y_op, y_with, y_length, y_height, y_torn, y_stack, y_position, y_cells, y_noted, y_wanted, y_formed, y_cursor, y_parked, y_where, y_often, y_due, y_many, y_found)) (hp3 : p < 3) (hLp : 0 < L p) (hpo : x_states (11 * p + 10) = nI a) (hac : a < c) (hcut : y_isCut a = 0) (hq : q + 2000 = c + D) (hD : D ≤ 2 ^ 29) :
    (∃ (c' q' : Nat) (u' : SX) (v' : SY), es_Q c' f d L q' u' v' ∧ q' + 2000 = c' + D ∧ es_psn u' p = nI a ∧ a < c' ∧ (∀ post : Int32 → SX → Prop, post 1 u' → wpX_workOn post (x_records, x_removedCount, x_flushed, x_drafted, x_height, x_time, x_foundAt, x_recordStream, x_recordType, x_recordVersion, x_recordValue, x_originProjection, x_originPosition, x_originInstruction, x_joined, x_removed, x_eventCount, x_cutLevel, x_draftType, x_draftValue, x_ops, x_arguments, x_programLength, x_states, x_noted, x_stack, x_metHeight, x_groupType, x_cursor, x_keptCursor, x_parked, x_rowCount, x_rowPosition, x_rowTimes, x_rowDue) (nI p) (nI a)) ∧ (∀ post : Int32 → SY → Prop, post 1 v' → wpY_fold post (y_count, y_flushed, y_calls, y_drafted, y_top, y_time, y_isCut, y_removed, y_stream, y_type, y_from, y_by, y_value, y_version, y_on, y_call, y_draftType, y_draftValue, y_op, y_with, y_length, y_height, y_torn, y_stack, y_position, y_cells, y_noted, y_wanted, y_formed, y_cursor, y_parked, y_where, y_often, y_due, y_many, y_found) (nI p) (nI a))) ∨
    (∃ (c' q' : Nat) (u' : SX) (v' : SY), es_Q c' f d L q' u' v' ∧ q' + 2000 = c' + D ∧ (∀ post : Int32 → SX → Prop, post 0 u' → wpX_workOn post (x_records, x_removedCount, x_flushed, x_drafted, x_height, x_time, x_foundAt, x_recordStream, x_recordType, x_recordVersion, x_recordValue, x_originProjection, x_originPosition, x_originInstruction, x_joined, x_removed, x_eventCount, x_cutLevel, x_draftType, x_draftValue, x_ops, x_arguments, x_programLength, x_states, x_noted, x_stack, x_metHeight, x_groupType, x_cursor, x_keptCursor, x_parked, x_rowCount, x_rowPosition, x_rowTimes, x_rowDue) (nI p) (nI a)) ∧ (∀ post : Int32 → SY → Prop, post 0 v' → wpY_fold post (y_count, y_flushed, y_calls, y_drafted, y_top, y_time, y_isCut, y_removed, y_stream, y_type, y_from, y_by, y_value, y_version, y_on, y_call, y_draftType, y_draftValue, y_op, y_with, y_length, y_height, y_torn, y_stack, y_position, y_cells, y_noted, y_wanted, y_formed, y_cursor, y_parked, y_where, y_often, y_due, y_many, y_found) (nI p) (nI a))) := by
  obtain ⟨hL, hDr, hP, hS, hG, hF⟩ := H
  have hl := hL.2.2.2.2.2.2.2.2.2.2.2.2.2
  have hc2 : c ≤ 2000 := hl.1.1
  obtain ⟨s, hs5, es⟩ := hl.2.1 a
  obtain ⟨ty, hty, ety⟩ := hl.2.2.1 a
  obtain ⟨M, hM0, hM⟩ := hP.2.2.2.2 p hp3
  have hlen := hP.2.1 p
  have hE := (hS p hp3 hLp).1.2
  have hR : es_Rn f d L p a s (fun k => y_cells (10 * p + k)) (fun o w => o = y_op ∧ w = y_with) D 0 c q (x_records, x_removedCount, x_flushed, x_drafted, nI 0, x_time, x_foundAt, x_recordStream, x_recordType, x_recordVersion, x_recordValue, x_originProjection, x_originPosition, x_originInstruction, x_joined, x_removed, x_eventCount, x_cutLevel, x_draftType, x_draftValue, x_ops, x_arguments, x_programLength, x_states, x_noted, x_stack, x_metHeight, x_groupType, x_cursor, x_keptCursor, x_parked, x_rowCount, x_rowPosition, x_rowTimes, x_rowDue) (y_count, y_flushed, y_calls, y_drafted, nI 0, y_time, y_isCut, y_removed, y_stream, y_type, y_from, y_by, y_value, y_version, y_on, y_call, y_draftType, y_draftValue, y_op, y_with, y_length, y_height, y_torn, y_stack, y_position, es_cpy y_cells 90 (10 * p) 10, y_noted, y_wanted, y_formed, y_cursor, y_parked, y_where, y_often, y_due, y_many, y_found) := by
    refine ⟨⟨hL, hDr, hP, fun m hm hml => ?_, hG, hF⟩, hq, rfl, rfl, fun j hj => absurd hj (Nat.not_lt_zero _), fun k hk => es_cpy_i hk, fun k hk _ _ => hE k hk, hpo, hac, hcut, es, rfl, rfl⟩
    obtain ⟨a1, a2, a3, a4⟩ := hS m hm hml
    exact ⟨es_Eq_c a1 (fun k hk => rfl) rfl (fun k hk => es_cpy_o (by omega)), es_Eq_c a2 (fun k hk => rfl) rfl (fun k hk => es_cpy_o (by omega)), a3, fun z => es_Eq_c (a4 z) (fun k hk => rfl) rfl (fun k hk => es_cpy_o (by omega))⟩
  have hO := em_run (M := M) hp3 hs5 hLp hD hM (L p) 0 0 0 c q _ _ (by omega) hlen.2 (by omega) (by omega) (fun _ => hM0) hR
  have va : vp_in (nI a) 2000 := vp_in_nI (by omega) (by decide)
  have ca : (nI a).toNatClampNeg = a := nI_clamp (by omega)
  have nt : ¬ x_recordType (nI a).toNatClampNeg = -1 := by
    rw [ca, hL.2.2.2.2.2.2.2.1, es_T0 hcut, ety]; exact es_nm1 (by omega)
  have e3 : nI (11 * (3 * 0 + p)) + x_recordStream (nI a).toNatClampNeg * 2 = nI (11 * p + 2 * s) := by
    rw [ca, ← hL.2.2.2.2.2.2.1, es, show (2 : Int32) = nI 2 from rfl, pk_mul, nI_add]; congr 1; omega
  have v3 : vp_in (nI (11 * p + 2 * s)) 99 := vp_in_nI (by omega) (by decide)
  have e4 : nI (11 * p + 2 * s) + 1 = nI (11 * p + 2 * s + 1) := nI_1 _
  have v4 : vp_in (nI (11 * p + 2 * s) + 1) 99 := by rw [e4]; exact vp_in_nI (by omega) (by decide)
  have c3 : (nI (11 * p + 2 * s)).toNatClampNeg = 11 * p + 2 * s := nI_clamp (by omega)
  have c4 : (nI (11 * p + 2 * s) + 1).toNatClampNeg = 11 * p + 2 * s + 1 := by rw [e4, nI_clamp (by omega)]
  have y0 : ∀ (post : Int32 → SY → Prop) (r : Int32) (v' : SY), post r v' → (∀ (post : Int32 → SY → Prop) (n5 : Nat), L p < n5 → post r v' → wY_fold_17 post (nI p) (nI a) n5 (nI 0) y_count y_flushed y_calls y_drafted (nI 0) y_time y_isCut y_removed y_stream y_type y_from y_by y_value y_version y_on y_call y_draftType y_draftValue y_op y_with y_length y_height y_torn y_stack y_position (es_cpy y_cells 90 (10 * p) 10) y_noted y_wanted y_formed y_cursor y_parked y_where y_often y_due y_many y_found) → wpY_fold post (y_count, y_flushed, y_calls, y_drafted, y_top, y_time, y_isCut, y_removed, y_stream, y_type, y_from, y_by, y_value, y_version, y_on, y_call, y_draftType, y_draftValue, y_op, y_with, y_length, y_height, y_torn, y_stack, y_position, y_cells, y_noted, y_wanted, y_formed, y_cursor, y_parked, y_where, y_often, y_due, y_many, y_found) (nI p) (nI a) := by
    intro post r v' hp hY
    unfold wpY_fold
    dsimp only
    rw [es_10]
    exact ey_copyCells (a := 10 * p) (b := 90) (by omega) (by omega) (by omega) ⟨L p + 1, hY post (L p + 1) (by omega) hp⟩
  rcases hO with ⟨c', q', u', v', k1, k2, k3, k4, k5, k6⟩ | ⟨c', q', u', v', k1, k2, k5, k6⟩
  · refine Or.inl ⟨c', q', u', v', k1, k2, k3, k4, fun post hp => ?_, fun post hp => y0 post 1 v' hp k6⟩
    refine ⟨va, br_f nt (ex_stateBase (m := 0) ⟨va, nm_r e3 ⟨v3, nm_e ⟨v4, nm_e ⟨L p + 1, k5 _ (L p + 1) (by omega) ?_⟩⟩⟩⟩)⟩
    obtain ⟨x_records, x_removedCount, x_flushed, x_drafted, x_height, x_time, x_foundAt, x_recordStream, x_recordType, x_recordVersion, x_recordValue, x_originProjection, x_originPosition, x_originInstruction, x_joined, x_removed, x_eventCount, x_cutLevel, x_draftType, x_draftValue, x_ops, x_arguments, x_programLength, x_states, x_noted, x_stack, x_metHeight, x_groupType, x_cursor, x_keptCursor, x_parked, x_rowCount, x_rowPosition, x_rowTimes, x_rowDue⟩ := u'
    exact br_f (by decide) ⟨rfl, hp⟩
  · refine Or.inr ⟨c', q', es_rst u' (11 * p + 2 * s) (y_cells (10 * p + 2 * s)) (y_cells (10 * p + (2 * s + 1))), v', k1, k2, fun post hp => ?_, fun post hp => y0 post 0 v' hp k6⟩
    have hx0 : x_states (nI (11 * p + 2 * s)).toNatClampNeg = y_cells (10 * p + 2 * s) := by rw [c3]; exact hE (2 * s) (by omega)
    have hx1 : x_states (nI (11 * p + 2 * s) + 1).toNatClampNeg = y_cells (10 * p + (2 * s + 1)) := by rw [c4, Nat.add_assoc]; exact hE (2 * s + 1) (by omega)
    refine ⟨va, br_f nt (ex_stateBase (m := 0) ⟨va, nm_r e3 ⟨v3, nm_r hx0 ⟨v4, nm_r hx1 ⟨L p + 1, k5 _ (L p + 1) (by omega) ?_⟩⟩⟩⟩)⟩
    obtain ⟨w_1, w_2, w_3, w_4, w_5, w_6, w_7, w_8, w_9, w_10, w_11, w_12, w_13, w_14, w_15, w_16, w_17, w_18, w_19, w_20, w_21, w_22, w_23, w_24, w_25, w_26, w_27, w_28, w_29, w_30, w_31, w_32, w_33, w_34, w_35⟩ := u'
    refine br_t rfl ⟨v3, nm_r (e' := upd w_24 (11 * p + 2 * s) (y_cells (10 * p + 2 * s))) (by rw [c3]) ⟨v4, nm_r (e' := upd (upd w_24 (11 * p + 2 * s) (y_cells (10 * p + 2 * s))) (11 * p + 2 * s + 1) (y_cells (10 * p + (2 * s + 1)))) (by rw [c4]) ⟨rfl, hp⟩⟩⟩
theorem es_Q_adv (H : es_Q c f d L q (x_records, x_removedCount, x_flushed, x_drafted, x_height, x_time, x_foundAt, x_recordStream, x_recordType, x_recordVersion, x_recordValue, x_originProjection, x_originPosition, x_originInstruction, x_joined, x_removed, x_eventCount, x_cutLevel, x_draftType, x_draftValue, x_ops, x_arguments, x_programLength, x_states, x_noted, x_stack, x_metHeight, x_groupType, x_cursor, x_keptCursor, x_parked, x_rowCount, x_rowPosition, x_rowTimes, x_rowDue) (y_count, y_flushed, y_calls, y_drafted, y_top, y_time, y_isCut, y_removed, y_stream, y_type, y_from, y_by, y_value, y_version, y_on, y_call, y_draftType, y_draftValue, y_op, y_with, y_length, y_height, y_torn, y_stack, y_position, y_cells, y_noted, y_wanted, y_formed, y_cursor, y_parked, y_where, y_often, y_due, y_many, y_found)) (hp3 : p < 3) (hac : a + 1 ≤ c) :
    es_Q c f d L q (x_records, x_removedCount, x_flushed, x_drafted, x_height, x_time, x_foundAt, x_recordStream, x_recordType, x_recordVersion, x_recordValue, x_originProjection, x_originPosition, x_originInstruction, x_joined, x_removed, x_eventCount, x_cutLevel, x_draftType, x_draftValue, x_ops, x_arguments, x_programLength, upd x_states (11 * p + 10) (nI (a + 1)), x_noted, x_stack, x_metHeight, x_groupType, x_cursor, x_keptCursor, x_parked, x_rowCount, x_rowPosition, x_rowTimes, x_rowDue) (y_count, y_flushed, y_calls, y_drafted, y_top, y_time, y_isCut, y_removed, y_stream, y_type, y_from, y_by, y_value, y_version, y_on, y_call, y_draftType, y_draftValue, y_op, y_with, y_length, y_height, y_torn, y_stack, upd y_position p (nI (a + 1)), y_cells, y_noted, y_wanted, y_formed, y_cursor, y_parked, y_where, y_often, y_due, y_many, y_found) := by
  obtain ⟨hL, hDr, hP, hS, hG, hF⟩ := H
  refine ⟨hL, hDr, hP, fun m hm hml => ?_, hG, hF⟩
  obtain ⟨a1, a2, a3, a4⟩ := hS m hm hml
  refine ⟨?_, es_Eq_c a2 (fun k hk => pk_un (by omega)) (pk_un (by omega)) (fun k hk => rfl), a3, fun z => es_Eq_c (a4 z) (fun k hk => pk_un (by omega)) (pk_un (by omega)) (fun k hk => rfl)⟩
  by_cases w : m = p
  · subst w
    obtain ⟨_, b3⟩ := a1
    refine ⟨⟨a + 1, hac, pk_us, pk_us⟩, fun k hk => ?_⟩
    rw [pk_un (by omega)]; exact b3 k hk
  · exact es_Eq_c a1 (fun k hk => pk_un (by omega)) (pk_un w) (fun k hk => rfl)
theorem es_Q_c {u : SX} {v : SY} (H : es_Q c f d L q u v) : c ≤ 2000 := by
  obtain ⟨x_records, x_removedCount, x_flushed, x_drafted, x_height, x_time, x_foundAt, x_recordStream, x_recordType, x_recordVersion, x_recordValue, x_originProjection, x_originPosition, x_originInstruction, x_joined, x_removed, x_eventCount, x_cutLevel, x_draftType, x_draftValue, x_ops, x_arguments, x_programLength, x_states, x_noted, x_stack, x_metHeight, x_groupType, x_cursor, x_keptCursor, x_parked, x_rowCount, x_rowPosition, x_rowTimes, x_rowDue⟩ := u
  obtain ⟨y_count, y_flushed, y_calls, y_drafted, y_top, y_time, y_isCut, y_removed, y_stream, y_type, y_from, y_by, y_value, y_version, y_on, y_call, y_draftType, y_draftValue, y_op, y_with, y_length, y_height, y_torn, y_stack, y_position, y_cells, y_noted, y_wanted, y_formed, y_cursor, y_parked, y_where, y_often, y_due, y_many, y_found⟩ := v
  exact H.1.2.2.2.2.2.2.2.2.2.2.2.2.2.1.1
theorem em_work {nn : Nat} (hp3 : p < 3) (hLp : 0 < L p) (hnn : nn ≤ 20) (hD : D ≤ 2 ^ 29) : ∀ m j, j + m = nn → ∀ c q (u : SX) (v : SY), es_Q c f d L q u v → q + 2000 = c + D → ∃ (r : Int32) (c' q' : Nat) (u' : SX) (v' : SY), es_Q c' f d L q' u' v' ∧ q' + 2000 = c' + D ∧
    (∀ post : Int32 → SX → Prop, post r u' → match u with | (x_records, x_removedCount, x_flushed, x_drafted, x_height, x_time, x_foundAt, x_recordStream, x_recordType, x_recordVersion, x_recordValue, x_originProjection, x_originPosition, x_originInstruction, x_joined, x_removed, x_eventCount, x_cutLevel, x_draftType, x_draftValue, x_ops, x_arguments, x_programLength, x_states, x_noted, x_stack, x_metHeight, x_groupType, x_cursor, x_keptCursor, x_parked, x_rowCount, x_rowPosition, x_rowTimes, x_rowDue) => wX_work_46 post (nI p) (nI nn) (nI (11 * p + 10)) (m + 1) (nI j) x_records x_removedCount x_flushed x_drafted x_height x_time x_foundAt x_recordStream x_recordType x_recordVersion x_recordValue x_originProjection x_originPosition x_originInstruction x_joined x_removed x_eventCount x_cutLevel x_draftType x_draftValue x_ops x_arguments x_programLength x_states x_noted x_stack x_metHeight x_groupType x_cursor x_keptCursor x_parked x_rowCount x_rowPosition x_rowTimes x_rowDue) ∧
    (∀ post : Int32 → SY → Prop, post r v' → match v with | (y_count, y_flushed, y_calls, y_drafted, y_top, y_time, y_isCut, y_removed, y_stream, y_type, y_from, y_by, y_value, y_version, y_on, y_call, y_draftType, y_draftValue, y_op, y_with, y_length, y_height, y_torn, y_stack, y_position, y_cells, y_noted, y_wanted, y_formed, y_cursor, y_parked, y_where, y_often, y_due, y_many, y_found) => wY_work_35 post (nI p) (nI nn) (m + 1) (nI j) y_count y_flushed y_calls y_drafted y_top y_time y_isCut y_removed y_stream y_type y_from y_by y_value y_version y_on y_call y_draftType y_draftValue y_op y_with y_length y_height y_torn y_stack y_position y_cells y_noted y_wanted y_formed y_cursor y_parked y_where y_often y_due y_many y_found) := by
  intro m
  induction m with
  | zero =>
    intro j hj c q u v hQ hq
    obtain ⟨x_records, x_removedCount, x_flushed, x_drafted, x_height, x_time, x_foundAt, x_recordStream, x_recordType, x_recordVersion, x_recordValue, x_originProjection, x_originPosition, x_originInstruction, x_joined, x_removed, x_eventCount, x_cutLevel, x_draftType, x_draftValue, x_ops, x_arguments, x_programLength, x_states, x_noted, x_stack, x_metHeight, x_groupType, x_cursor, x_keptCursor, x_parked, x_rowCount, x_rowPosition, x_rowTimes, x_rowDue⟩ := u
    obtain ⟨y_count, y_flushed, y_calls, y_drafted, y_top, y_time, y_isCut, y_removed, y_stream, y_type, y_from, y_by, y_value, y_version, y_on, y_call, y_draftType, y_draftValue, y_op, y_with, y_length, y_height, y_torn, y_stack, y_position, y_cells, y_noted, y_wanted, y_formed, y_cursor, y_parked, y_where, y_often, y_due, y_many, y_found⟩ := v
    exact ⟨nI j, c, q, _, _, hQ, hq, fun post hp => br_t (nI_le (by omega) (by omega)) hp, fun post hp => br_t (nI_le (by omega) (by omega)) hp⟩
  | succ m ih =>
    intro j hj c q u v hQ hq
    obtain ⟨x_records, x_removedCount, x_flushed, x_drafted, x_height, x_time, x_foundAt, x_recordStream, x_recordType, x_recordVersion, x_recordValue, x_originProjection, x_originPosition, x_originInstruction, x_joined, x_removed, x_eventCount, x_cutLevel, x_draftType, x_draftValue, x_ops, x_arguments, x_programLength, x_states, x_noted, x_stack, x_metHeight, x_groupType, x_cursor, x_keptCursor, x_parked, x_rowCount, x_rowPosition, x_rowTimes, x_rowDue⟩ := u
    obtain ⟨y_count, y_flushed, y_calls, y_drafted, y_top, y_time, y_isCut, y_removed, y_stream, y_type, y_from, y_by, y_value, y_version, y_on, y_call, y_draftType, y_draftValue, y_op, y_with, y_length, y_height, y_torn, y_stack, y_position, y_cells, y_noted, y_wanted, y_formed, y_cursor, y_parked, y_where, y_often, y_due, y_many, y_found⟩ := v
    have hl := hQ.1.2.2.2.2.2.2.2.2.2.2.2.2.2
    have hc2 : c ≤ 2000 := hl.1.1
    have hr := hQ.1.1
    have hcn := hQ.1.2.1
    obtain ⟨⟨a, ha, e1, e2⟩, _⟩ := (hQ.2.2.2.1 p hp3 hLp).1
    have nj : ¬ nI nn ≤ nI j := nI_ge (by omega) (by omega)
    have v99 : vp_in (nI (11 * p + 10)) 99 := vp_in_nI (by omega) (by decide)
    have c99 : x_states (nI (11 * p + 10)).toNatClampNeg = nI a := by rw [nI_clamp (by omega), e1]
    have v9 : vp_in (nI p) 9 := vp_in_nI (by omega) (by decide)
    have c9 : y_position (nI p).toNatClampNeg = nI a := by rw [nI_clamp (by omega), e2]
    by_cases z : c ≤ a
    · refine ⟨nI j, c, q, _, _, hQ, hq, fun post hp => br_f nj ⟨v99, br_t ?_ hp⟩, fun post hp => br_f nj ⟨v9, br_t ?_ hp⟩⟩
      · rw [hr, c99]; exact nI_le z (by omega)
      · rw [hcn, c9]; exact nI_le z (by omega)
    · have nx : ¬ x_records ≤ x_states (nI (11 * p + 10)).toNatClampNeg := by rw [hr, c99]; exact nI_ge (by omega) (by omega)
      have ny : ¬ y_count ≤ y_position (nI p).toNatClampNeg := by rw [hcn, c9]; exact nI_ge (by omega) (by omega)
      have va : vp_in (y_position (nI p).toNatClampNeg) 2000 := by rw [c9]; exact vp_in_nI (by omega) (by decide)
      have ca : (y_position (nI p).toNatClampNeg).toNatClampNeg = a := by rw [c9, nI_clamp (by omega)]
      by_cases hcut : y_isCut a = 0
      · rcases em_fold hQ hp3 hLp e1 (by omega) hcut hq hD with ⟨c', q', u', v', k1, k2, k3, k4, k5, k6⟩ | ⟨c', q', u', v', k1, k2, k5, k6⟩
        · obtain ⟨w_1, w_2, w_3, w_4, w_5, w_6, w_7, w_8, w_9, w_10, w_11, w_12, w_13, w_14, w_15, w_16, w_17, w_18, w_19, w_20, w_21, w_22, w_23, w_24, w_25, w_26, w_27, w_28, w_29, w_30, w_31, w_32, w_33, w_34, w_35⟩ := u'
          obtain ⟨t_1, t_2, t_3, t_4, t_5, t_6, t_7, t_8, t_9, t_10, t_11, t_12, t_13, t_14, t_15, t_16, t_17, t_18, t_19, t_20, t_21, t_22, t_23, t_24, t_25, t_26, t_27, t_28, t_29, t_30, t_31, t_32, t_33, t_34, t_35, t_36⟩ := v'
          have kp : w_24 (11 * p + 10) = nI a := k3
          obtain ⟨⟨b, hb, f1, f2⟩, _⟩ := (k1.2.2.2.1 p hp3 hLp).1
          have kq : t_25 p = nI a := by rw [f2, ← f1]; exact kp
          have hA := es_Q_adv (a := a) k1 hp3 (by omega)
          obtain ⟨r, c2, q2, u2, v2, g1, g2, gX, gY⟩ := ih (j + 1) (by omega) c' q' _ _ hA k2
          refine ⟨r, c2, q2, u2, v2, g1, g2, fun post hp => br_f nj ⟨v99, br_f nx ⟨v99, ?_⟩⟩, fun post hp => br_f nj ⟨v9, br_f ny ⟨v9, va, br_t (by rw [ca]; exact hcut) ⟨v9, ?_⟩⟩⟩⟩
          · rw [c99]
            refine k5 _ (br_f (by decide) ⟨v99, v99, nm_r (e' := upd w_24 (11 * p + 10) (nI (a + 1))) ?_ (nm_r (nI_1 _) (gX post hp))⟩)
            rw [nI_clamp (by omega), kp, nI_1]
          · rw [c9]
            refine k6 _ (br_f (by decide) ⟨v9, v9, nm_r (e' := upd t_25 p (nI (a + 1))) ?_ (nm_r (nI_1 _) (gY post hp))⟩)
            rw [nI_clamp (by omega), kq, nI_1]
        · refine ⟨-3, c', q', u', v', k1, k2, fun post hp => br_f nj ⟨v99, br_f nx ⟨v99, ?_⟩⟩, fun post hp => br_f nj ⟨v9, br_f ny ⟨v9, va, br_t (by rw [ca]; exact hcut) ⟨v9, ?_⟩⟩⟩⟩
          · rw [c99]
            refine k5 _ ?_
            obtain ⟨x_records, x_removedCount, x_flushed, x_drafted, x_height, x_time, x_foundAt, x_recordStream, x_recordType, x_recordVersion, x_recordValue, x_originProjection, x_originPosition, x_originInstruction, x_joined, x_removed, x_eventCount, x_cutLevel, x_draftType, x_draftValue, x_ops, x_arguments, x_programLength, x_states, x_noted, x_stack, x_metHeight, x_groupType, x_cursor, x_keptCursor, x_parked, x_rowCount, x_rowPosition, x_rowTimes, x_rowDue⟩ := u'
            exact br_t rfl hp
          · rw [c9]
            refine k6 _ ?_
            obtain ⟨y_count, y_flushed, y_calls, y_drafted, y_top, y_time, y_isCut, y_removed, y_stream, y_type, y_from, y_by, y_value, y_version, y_on, y_call, y_draftType, y_draftValue, y_op, y_with, y_length, y_height, y_torn, y_stack, y_position, y_cells, y_noted, y_wanted, y_formed, y_cursor, y_parked, y_where, y_often, y_due, y_many, y_found⟩ := v'
            exact br_t rfl hp
      · have hA := es_Q_adv (a := a) hQ hp3 (by omega)
        obtain ⟨r, c2, q2, u2, v2, g1, g2, gX, gY⟩ := ih (j + 1) (by omega) c q _ _ hA hq
        refine ⟨r, c2, q2, u2, v2, g1, g2, fun post hp => br_f nj ⟨v99, br_f nx ⟨v99, ?_⟩⟩, fun post hp => br_f nj ⟨v9, br_f ny ⟨v9, va, br_f (by rw [ca]; exact hcut) ⟨v9, v9, nm_r (e' := upd y_position p (nI (a + 1))) ?_ (nm_r (nI_1 _) (gY post hp))⟩⟩⟩⟩
        · rw [c99]
          refine ⟨vp_in_nI (by omega) (by decide), br_t ?_ (br_f (by decide) ⟨v99, v99, nm_r (e' := upd x_states (11 * p + 10) (nI (a + 1))) ?_ (nm_r (nI_1 _) (gX post hp))⟩)⟩
          · rw [nI_clamp (by omega), hQ.1.2.2.2.2.2.2.2.1, es_T1 hcut]
          · rw [nI_clamp (by omega), e1, nI_1]
        · rw [nI_clamp (by omega), e2, nI_1]
theorem i_vc_work {k : Nat} {u : SX} {v : SY} (I : i_Rel k u v) (hk : k + 4 ≤ 2048) (v1 : Int32) (v2 : Int32) : wpX_work (fun r u' => wpY_work (fun r' v' => r' = r ∧ i_Rel (k + 4) u' v') v v1 v2) u v1 v2 := by
  obtain ⟨x_records, x_removedCount, x_flushed, x_drafted, x_height, x_time, x_foundAt, x_recordStream, x_recordType, x_recordVersion, x_recordValue, x_originProjection, x_originPosition, x_originInstruction, x_joined, x_removed, x_eventCount, x_cutLevel, x_draftType, x_draftValue, x_ops, x_arguments, x_programLength, x_states, x_noted, x_stack, x_metHeight, x_groupType, x_cursor, x_keptCursor, x_parked, x_rowCount, x_rowPosition, x_rowTimes, x_rowDue⟩ := u
  obtain ⟨y_count, y_flushed, y_calls, y_drafted, y_top, y_time, y_isCut, y_removed, y_stream, y_type, y_from, y_by, y_value, y_version, y_on, y_call, y_draftType, y_draftValue, y_op, y_with, y_length, y_height, y_torn, y_stack, y_position, y_cells, y_noted, y_wanted, y_formed, y_cursor, y_parked, y_where, y_often, y_due, y_many, y_found⟩ := v
  have J := i_up I
  obtain ⟨q, hq, c, f, d, L, hQ⟩ := I
  have hP := hQ.2.2.1
  have hc2 : c ≤ 2000 := hQ.1.2.2.2.2.2.2.2.2.2.2.2.2.2.1.1
  unfold wpX_work
  rcases es_rg v1 3 (by decide) with h | ⟨p, hp, rfl⟩
  · refine ex_isProj0 h (br_t rfl ?_)
    unfold wpY_work
    exact ey_outT 3 rfl h (br_f (by decide) ⟨rfl, J⟩)
  · refine ex_isProj1 hp (br_f (by decide) ?_)
    by_cases z1 : v2 < 1
    · refine br_t z1 ?_
      unfold wpY_work
      exact ey_outF 3 p rfl (by decide) hp (br_t rfl (br_t z1 ⟨rfl, J⟩))
    · by_cases z20 : v2 ≤ 20
      · have v4 : vp_in (nI p) 4 := vp_in_nI (by omega) (by decide)
        have hly : y_length (nI p).toNatClampNeg = nI (L p) := by rw [nI_clamp (by omega)]; exact (hP.2.1 p).1
        have hlx : x_programLength (nI p).toNatClampNeg = nI (L p) := by rw [nI_clamp (by omega), ← hP.1]; exact (hP.2.1 p).1
        have h14 := (hP.2.1 p).2
        by_cases l0 : L p = 0
        · refine br_f z1 (br_t z20 ⟨v4, br_t (by rw [hlx, l0]; rfl) ?_⟩)
          unfold wpY_work
          exact ey_outF 3 p rfl (by decide) hp (br_t rfl (br_f z1 (br_t z20 ⟨v4, br_t (by rw [hly, l0]; rfl) ⟨rfl, J⟩⟩)))
        · obtain ⟨nn, hnn, rfl⟩ := nI_of (x := v2) (fun w => z1 (es_lttr w (by decide)))
          have hn20 : nn ≤ 20 := (nI_leI (b := 20) hnn (by decide)).mp z20
          obtain ⟨r, c', q', u', v', g1, g2, gX, gY⟩ := em_work (D := q + 2000 - c) hp (by omega) hn20 (by omega) nn 0 (by omega) c q (x_records, x_removedCount, x_flushed, x_drafted, x_height, x_time, x_foundAt, x_recordStream, x_recordType, x_recordVersion, x_recordValue, x_originProjection, x_originPosition, x_originInstruction, x_joined, x_removed, x_eventCount, x_cutLevel, x_draftType, x_draftValue, x_ops, x_arguments, x_programLength, x_states, x_noted, x_stack, x_metHeight, x_groupType, x_cursor, x_keptCursor, x_parked, x_rowCount, x_rowPosition, x_rowTimes, x_rowDue) (y_count, y_flushed, y_calls, y_drafted, y_top, y_time, y_isCut, y_removed, y_stream, y_type, y_from, y_by, y_value, y_version, y_on, y_call, y_draftType, y_draftValue, y_op, y_with, y_length, y_height, y_torn, y_stack, y_position, y_cells, y_noted, y_wanted, y_formed, y_cursor, y_parked, y_where, y_often, y_due, y_many, y_found) hQ (by omega)
          refine br_f z1 (br_t z20 ⟨v4, br_f (by rw [hlx]; exact fun z => l0 ((es_eq0 (by omega)).mp z)) (ex_stateBase (m := 0) (nm_r (e' := nI (11 * p + 10)) ?_ ⟨_, gX _ ?_⟩))⟩)
          · rw [show 11 * (3 * 0 + p) = 11 * p by omega]; exact nI_add _ 10
          · unfold wpY_work
            refine ey_outF 3 p rfl (by decide) hp (br_t rfl (br_f z1 (br_t z20 ⟨v4, br_f (by rw [hly]; exact fun z => l0 ((es_eq0 (by omega)).mp z)) ⟨_, gY _ ⟨rfl, q', ?_, c', f, d, L, g1⟩⟩⟩)))
            have hc' : c' ≤ 2000 := es_Q_c g1
            omega
      · refine br_f z1 (br_f z20 ?_)
        unfold wpY_work
        exact ey_outF 3 p rfl (by decide) hp (br_t rfl (br_f z1 (br_f z20 ⟨rfl, J⟩)))
end
end
