section
/-! one group -/
def es_Grp (c f g nt nw nk u k : Nat) (cu kc rn rp rt rd cv mn wh oft du : Nat → Int32) : Prop :=
  (u ≤ c ∧ k ≤ f ∧ nt + nw ≤ 6 ∧ nk ≤ 6) ∧
  (cu g = nI u ∧ cv g = nI u ∧ kc g = nI k ∧ cv (2 + g) = nI k) ∧
  (rn (3 * g) = nI nt ∧ mn g = nI nt ∧ rn (3 * g + 1) = nI nw ∧ mn (2 + g) = nI nw ∧ rn (3 * g + 2) = nI nk ∧ mn (4 + g) = nI nk) ∧
  es_Row (18 * g) (8 * g) nt u rp rt wh oft ∧ es_Due (18 * g) (8 * g) nt rd du ∧
  es_Row (18 * g + 6) (16 + 8 * g) nw u rp rt wh oft ∧
  es_Row (18 * g + 12) (32 + 8 * g) nk k rp rt wh oft ∧
  es_Dis (18 * g) nt rp ∧ es_Dis (18 * g + 6) nw rp ∧ es_Di2 (18 * g) nt (18 * g + 6) nw rp ∧
  es_Srt (18 * g + 12) nk rp
variable {c f g nt nw nk u k : Nat} {cu kc rn rp rt rd cv mn wh oft du : Nat → Int32}
theorem es_Di2_d {b n b' n' i : Nat} (H : es_Di2 b n b' n' rp) (hi : i < n) (hd : b' + n' ≤ b ∨ b + n ≤ b') : es_Di2 b (n - 1) b' n' (es_del rp (b + i) (b + (n - 1))) := by
  intro x y hx hy e
  obtain ⟨x', a1, a2, a3, a4, a5⟩ := es_del_w (b := b) rp hi x hx
  rw [a5, es_del_o (by omega)] at e
  exact H x' y a1 hy e
theorem es_Di2_d' {b n b' n' i : Nat} (H : es_Di2 b n b' n' rp) (hi : i < n') (hd : b' + n' ≤ b ∨ b + n ≤ b') : es_Di2 b n b' (n' - 1) (es_del rp (b' + i) (b' + (n' - 1))) := by
  intro x y hx hy e
  obtain ⟨y', a1, a2, a3, a4, a5⟩ := es_del_w (b := b') rp hi y hy
  rw [a5, es_del_o (by omega)] at e
  exact H x y' hx a1 e
theorem es_Grp_m {c' f' : Nat} (H : es_Grp c f g nt nw nk u k cu kc rn rp rt rd cv mn wh oft du) (hc : u ≤ c') (hf : k ≤ f') : es_Grp c' f' g nt nw nk u k cu kc rn rp rt rd cv mn wh oft du := by
  obtain ⟨h0, h1⟩ := H
  exact ⟨⟨hc, hf, h0.2.2⟩, h1⟩
/-- what happens elsewhere leaves the group as it is -/
theorem es_Grp_c {cu' kc' rn' rp' rt' rd' cv' mn' wh' oft' du' : Nat → Int32} (H : es_Grp c f g nt nw nk u k cu kc rn rp rt rd cv mn wh oft du)
    (h1 : cu' g = cu g ∧ cv' g = cv g ∧ kc' g = kc g ∧ cv' (2 + g) = cv (2 + g))
    (h2 : ∀ i, i < 3 → rn' (3 * g + i) = rn (3 * g + i))
    (h3 : mn' g = mn g ∧ mn' (2 + g) = mn (2 + g) ∧ mn' (4 + g) = mn (4 + g))
    (h4 : ∀ i, i < 18 → rp' (18 * g + i) = rp (18 * g + i) ∧ rt' (18 * g + i) = rt (18 * g + i) ∧ rd' (18 * g + i) = rd (18 * g + i))
    (h5 : ∀ m i, m < 3 → i < 8 → wh' (16 * m + 8 * g + i) = wh (16 * m + 8 * g + i) ∧ oft' (16 * m + 8 * g + i) = oft (16 * m + 8 * g + i) ∧ du' (16 * m + 8 * g + i) = du (16 * m + 8 * g + i)) :
    es_Grp c f g nt nw nk u k cu' kc' rn' rp' rt' rd' cv' mn' wh' oft' du' := by
  obtain ⟨a0, a1, a2, a3, a4, a5, a6, a7, a8, a9, a10⟩ := H
  have p0 : ∀ i, i < nt → rp' (18 * g + i) = rp (18 * g + i) := fun i hi => (h4 i (by omega)).1
  have p1 : ∀ i, i < nw → rp' (18 * g + 6 + i) = rp (18 * g + 6 + i) := fun i hi => by
    rw [Nat.add_assoc]; exact (h4 (6 + i) (by omega)).1
  have p2 : ∀ i, i < nk → rp' (18 * g + 12 + i) = rp (18 * g + 12 + i) := fun i hi => by
    rw [Nat.add_assoc]; exact (h4 (12 + i) (by omega)).1
  refine ⟨a0, ?_, ?_, es_Row_c a3 (fun i hi => ?_), fun i hi => ?_, es_Row_c a5 (fun i hi => ?_), es_Row_c a6 (fun i hi => ?_), es_Dis_c a7 p0, es_Dis_c a8 p1, es_Di2_c a9 p0 p1, es_Srt_c a10 p2⟩
  · rw [h1.1, h1.2.1, h1.2.2.1, h1.2.2.2]; exact a1
  · have q0 := h2 0 (by omega)
    rw [Nat.add_zero] at q0
    rw [q0, h2 1 (by omega), h2 2 (by omega), h3.1, h3.2.1, h3.2.2]; exact a2
  · have q := h5 0 i (by omega) (by omega)
    rw [show 16 * 0 + 8 * g + i = 8 * g + i by omega] at q
    have r := h4 i (by omega)
    exact ⟨r.1, r.2.1, q.1, q.2.1⟩
  · have q := h5 0 i (by omega) (by omega)
    rw [show 16 * 0 + 8 * g + i = 8 * g + i by omega] at q
    have r := h4 i (by omega)
    rw [q.2.2, r.2.2]
    exact a4 i hi
  · have q := h5 1 i (by omega) (by omega)
    rw [show 16 * 1 + 8 * g + i = 16 + 8 * g + i by omega] at q
    have r := h4 (6 + i) (by omega)
    rw [← Nat.add_assoc] at r
    exact ⟨r.1, r.2.1, q.1, q.2.1⟩
  · have q := h5 2 i (by omega) (by omega)
    rw [show 16 * 2 + 8 * g + i = 32 + 8 * g + i by omega] at q
    have r := h4 (12 + i) (by omega)
    rw [← Nat.add_assoc] at r
    exact ⟨r.1, r.2.1, q.1, q.2.1⟩
/-- a TAKEN event goes -/
theorem es_Grp_dt {i : Nat} (H : es_Grp c f g nt nw nk u k cu kc rn rp rt rd cv mn wh oft du) (hi : i < nt) (hg : g < 2) :
    es_Grp c f g (nt - 1) nw nk u k cu kc (upd rn (3 * g) (nI (nt - 1))) (es_del rp (18 * g + i) (18 * g + (nt - 1))) (es_del rt (18 * g + i) (18 * g + (nt - 1))) (es_del rd (18 * g + i) (18 * g + (nt - 1)))
      cv (upd mn g (nI (nt - 1))) (es_del wh (8 * g + i) (8 * g + (nt - 1))) (es_del oft (8 * g + i) (8 * g + (nt - 1))) (es_del du (8 * g + i) (8 * g + (nt - 1))) := by
  obtain ⟨a0, a1, a2, a3, a4, a5, a6, a7, a8, a9, a10⟩ := H
  refine ⟨⟨a0.1, a0.2.1, by omega, a0.2.2.2⟩, a1, ?_, es_Row_d a3 hi, es_Due_d a4 hi, es_Row_c a5 (fun j hj => ?_), es_Row_c a6 (fun j hj => ?_), es_Dis_d a7 hi, es_Dis_c a8 (fun j hj => ?_), es_Di2_d a9 hi (by omega), es_Srt_c a10 (fun j hj => ?_)⟩
  · rw [pk_us, pk_us, pk_un (by omega), pk_un (by omega), pk_un (by omega), pk_un (by omega)]
    exact ⟨rfl, rfl, a2.2.2⟩
  · rw [es_del_o (by omega), es_del_o (by omega), es_del_o (by omega), es_del_o (by omega)]; exact ⟨rfl, rfl, rfl, rfl⟩
  · rw [es_del_o (by omega), es_del_o (by omega), es_del_o (by omega), es_del_o (by omega)]; exact ⟨rfl, rfl, rfl, rfl⟩
  · rw [es_del_o (by omega)]
  · rw [es_del_o (by omega)]
/-- a WAITING event goes -/
theorem es_Grp_dw {i : Nat} (H : es_Grp c f g nt nw nk u k cu kc rn rp rt rd cv mn wh oft du) (hi : i < nw) (hg : g < 2) :
    es_Grp c f g nt (nw - 1) nk u k cu kc (upd rn (3 * g + 1) (nI (nw - 1))) (es_del rp (18 * g + 6 + i) (18 * g + 6 + (nw - 1))) (es_del rt (18 * g + 6 + i) (18 * g + 6 + (nw - 1))) (es_del rd (18 * g + 6 + i) (18 * g + 6 + (nw - 1)))
      cv (upd mn (2 + g) (nI (nw - 1))) (es_del wh (16 + 8 * g + i) (16 + 8 * g + (nw - 1))) (es_del oft (16 + 8 * g + i) (16 + 8 * g + (nw - 1))) (es_del du (16 + 8 * g + i) (16 + 8 * g + (nw - 1))) := by
  obtain ⟨a0, a1, a2, a3, a4, a5, a6, a7, a8, a9, a10⟩ := H
  refine ⟨⟨a0.1, a0.2.1, by omega, a0.2.2.2⟩, a1, ?_, es_Row_c a3 (fun j hj => ?_), fun j hj => ?_, es_Row_d a5 hi, es_Row_c a6 (fun j hj => ?_), es_Dis_c a7 (fun j hj => ?_), es_Dis_d a8 hi, es_Di2_d' a9 hi (by omega), es_Srt_c a10 (fun j hj => ?_)⟩
  · rw [pk_us, pk_us, pk_un (by omega), pk_un (by omega), pk_un (by omega), pk_un (by omega)]
    exact ⟨a2.1, a2.2.1, rfl, rfl, a2.2.2.2.2⟩
  · rw [es_del_o (by omega), es_del_o (by omega), es_del_o (by omega), es_del_o (by omega)]; exact ⟨rfl, rfl, rfl, rfl⟩
  · rw [es_del_o (by omega), es_del_o (by omega)]; exact a4 j hj
  · rw [es_del_o (by omega), es_del_o (by omega), es_del_o (by omega), es_del_o (by omega)]; exact ⟨rfl, rfl, rfl, rfl⟩
  · rw [es_del_o (by omega)]
  · rw [es_del_o (by omega)]
/-- an event comes to the WAITING ones -/
theorem es_Grp_aw {a : Nat} {tm : Int32} (H : es_Grp c f g nt nw nk u k cu kc rn rp rt rd cv mn wh oft du) (hn : nt + nw < 6) (hg : g < 2) (ha : a < u)
    (d1 : ∀ i, i < nt → ¬ rp (18 * g + i) = nI a) (d2 : ∀ i, i < nw → ¬ rp (18 * g + 6 + i) = nI a) :
    es_Grp c f g nt (nw + 1) nk u k cu kc (upd rn (3 * g + 1) (nI (nw + 1))) (upd rp (18 * g + 6 + nw) (nI a)) (upd rt (18 * g + 6 + nw) tm) rd
      cv (upd mn (2 + g) (nI (nw + 1))) (upd wh (16 + 8 * g + nw) (nI a)) (upd oft (16 + 8 * g + nw) tm) du := by
  obtain ⟨a0, a1, a2, a3, a4, a5, a6, a7, a8, a9, a10⟩ := H
  refine ⟨⟨a0.1, a0.2.1, by omega, a0.2.2.2⟩, a1, ?_, es_Row_c a3 (fun j hj => ?_), a4, fun j hj => ?_, es_Row_c a6 (fun j hj => ?_), es_Dis_c a7 (fun j hj => ?_), fun x y hx hy e => ?_, fun x y hx hy e => ?_, es_Srt_c a10 (fun j hj => ?_)⟩
  · rw [pk_us, pk_us, pk_un (by omega), pk_un (by omega), pk_un (by omega), pk_un (by omega)]
    exact ⟨a2.1, a2.2.1, rfl, rfl, a2.2.2.2.2⟩
  · rw [pk_un (by omega), pk_un (by omega), pk_un (by omega), pk_un (by omega)]; exact ⟨rfl, rfl, rfl, rfl⟩
  · by_cases z : j = nw
    · subst z
      rw [pk_us, pk_us, pk_us, pk_us]
      exact ⟨⟨a, ha, rfl⟩, rfl, rfl⟩
    · rw [pk_un (by omega), pk_un (by omega), pk_un (by omega), pk_un (by omega)]
      exact a5 j (by omega)
  · rw [pk_un (by omega), pk_un (by omega), pk_un (by omega), pk_un (by omega)]; exact ⟨rfl, rfl, rfl, rfl⟩
  · rw [pk_un (by omega)]
  · by_cases zx : x = nw
    · by_cases zy : y = nw
      · omega
      · rw [zx, pk_us, pk_un (by omega)] at e
        exact absurd e.symm (d2 y (by omega))
    · by_cases zy : y = nw
      · rw [zy, pk_us, pk_un (by omega)] at e
        exact absurd e (d2 x (by omega))
      · rw [pk_un (by omega), pk_un (by omega)] at e
        exact a8 x y (by omega) (by omega) e
  · rw [pk_un (by omega)] at e
    by_cases zy : y = nw
    · rw [zy, pk_us] at e
      exact d1 x hx e
    · rw [pk_un (by omega)] at e
      exact a9 x y hx (by omega) e
  · rw [pk_un (by omega)]
/-- an event is TAKEN -/
theorem es_Grp_at {a : Nat} {tm dv : Int32} (H : es_Grp c f g nt nw nk u k cu kc rn rp rt rd cv mn wh oft du) (hn : nt + nw < 6) (hg : g < 2) (ha : a < u)
    (d1 : ∀ i, i < nt → ¬ rp (18 * g + i) = nI a) (d2 : ∀ i, i < nw → ¬ rp (18 * g + 6 + i) = nI a) :
    es_Grp c f g (nt + 1) nw nk u k cu kc (upd rn (3 * g) (nI (nt + 1))) (upd rp (18 * g + nt) (nI a)) (upd rt (18 * g + nt) tm) (upd rd (18 * g + nt) dv)
      cv (upd mn g (nI (nt + 1))) (upd wh (8 * g + nt) (nI a)) (upd oft (8 * g + nt) tm) (upd du (8 * g + nt) dv) := by
  obtain ⟨a0, a1, a2, a3, a4, a5, a6, a7, a8, a9, a10⟩ := H
  refine ⟨⟨a0.1, a0.2.1, by omega, a0.2.2.2⟩, a1, ?_, fun j hj => ?_, fun j hj => ?_, es_Row_c a5 (fun j hj => ?_), es_Row_c a6 (fun j hj => ?_), fun x y hx hy e => ?_, es_Dis_c a8 (fun j hj => ?_), fun x y hx hy e => ?_, es_Srt_c a10 (fun j hj => ?_)⟩
  · rw [pk_us, pk_us, pk_un (by omega), pk_un (by omega), pk_un (by omega), pk_un (by omega)]
    exact ⟨rfl, rfl, a2.2.2⟩
  · by_cases z : j = nt
    · subst z
      rw [pk_us, pk_us, pk_us, pk_us]
      exact ⟨⟨a, ha, rfl⟩, rfl, rfl⟩
    · rw [pk_un (by omega), pk_un (by omega), pk_un (by omega), pk_un (by omega)]
      exact a3 j (by omega)
  · by_cases z : j = nt
    · subst z
      rw [pk_us, pk_us]
    · rw [pk_un (by omega), pk_un (by omega)]
      exact a4 j (by omega)
  · rw [pk_un (by omega), pk_un (by omega), pk_un (by omega), pk_un (by omega)]; exact ⟨rfl, rfl, rfl, rfl⟩
  · rw [pk_un (by omega), pk_un (by omega), pk_un (by omega), pk_un (by omega)]; exact ⟨rfl, rfl, rfl, rfl⟩
  · by_cases zx : x = nt
    · by_cases zy : y = nt
      · omega
      · rw [zx, pk_us, pk_un (by omega)] at e
        exact absurd e.symm (d1 y (by omega))
    · by_cases zy : y = nt
      · rw [zy, pk_us, pk_un (by omega)] at e
        exact absurd e (d1 x (by omega))
      · rw [pk_un (by omega), pk_un (by omega)] at e
        exact a7 x y (by omega) (by omega) e
  · rw [pk_un (by omega)]
  · rw [pk_un (j := 18 * g + 6 + y) (by omega)] at e
    by_cases zx : x = nt
    · rw [zx, pk_us] at e
      exact d2 y hy e.symm
    · rw [pk_un (by omega)] at e
      exact a9 x y (by omega) hy e
  · rw [pk_un (by omega)]
/-- the cursor goes on -/
theorem es_Grp_cu {u' : Nat} (H : es_Grp c f g nt nw nk u k cu kc rn rp rt rd cv mn wh oft du) (h1 : u ≤ u') (h2 : u' ≤ c) (hg : g < 2) :
    es_Grp c f g nt nw nk u' k (upd cu g (nI u')) kc rn rp rt rd (upd cv g (nI u')) mn wh oft du := by
  obtain ⟨a0, a1, a2, a3, a4, a5, a6, a7⟩ := H
  refine ⟨⟨h2, a0.2⟩, ?_, a2, es_Row_m a3 h1, a4, es_Row_m a5 h1, a6, a7⟩
  rw [pk_us, pk_us, pk_un (by omega)]
  exact ⟨rfl, rfl, a1.2.2⟩
end
