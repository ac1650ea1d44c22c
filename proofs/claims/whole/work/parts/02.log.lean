section
/-! the log -/
theorem es_uu {f : Nat → Int32} {k : Nat} {x y : Int32} : upd (upd f k x) k y = upd f k y := by
  funext j
  by_cases e : j = k
  · rw [e, pk_us, pk_us]
  · rw [pk_un e, pk_un e, pk_un e]
/-- c records, f of them flushed, q calls so far; the reference's arrays, then the component's own -/
def es_Log (c f q : Nat) (cut rm str ty fr byi val ver onn call oi jn ec cl : Nat → Int32) : Prop :=
  (c ≤ 2000 ∧ f ≤ c ∧ c - es_rc rm c ≤ 40) ∧
  (∀ i, ∃ s, s < 5 ∧ str i = nI s) ∧
  (∀ i, ∃ t, t < 8 ∧ ty i = nI t) ∧
  (∀ i, ∃ n, n ≤ 2000 ∧ ver i = nI n) ∧
  (∀ i, (rm i = 0 ∨ rm i = 1) ∧ (f ≤ i → rm i = 0)) ∧
  (∀ s, s < 5 → ec s = nI (es_ev cut str (nI s) c)) ∧
  (∀ s, s < 5 → cl s = es_cm cut str val (nI s) c) ∧
  (∀ i, i < c → fr i = -1 ∨ (cut i = 0 ∧ oi i = byi i ∧ ∃ o, o < i ∧ onn i = nI o)) ∧
  (∀ i, i < c → ∃ m, m ≤ q ∧ call i = nI m) ∧
  (∀ j, j + 1 < c → (jn (j + 1) = 0 ↔ ¬ call j = call (j + 1)))
variable {c f q : Nat} {cut rm str ty fr byi val ver onn call oi jn ec cl : Nat → Int32}
theorem es_Log_0 : es_Log 0 0 0 (fun _ => 0) (fun _ => 0) (fun _ => 0) (fun _ => 0) (fun _ => 0) (fun _ => 0) (fun _ => 0) (fun _ => 0) (fun _ => 0) (fun _ => 0) (fun _ => 0) (fun _ => 0) (fun _ => 0) (fun _ => 0) :=
  ⟨⟨by omega, by omega, by omega⟩, fun _ => ⟨0, by omega, rfl⟩, fun _ => ⟨0, by omega, rfl⟩, fun _ => ⟨0, by omega, rfl⟩, fun _ => ⟨Or.inl rfl, fun _ => rfl⟩, fun _ _ => rfl, fun _ _ => rfl, fun _ h => by omega, fun _ h => by omega, fun _ h => by omega⟩
theorem es_Log_q {q' : Nat} (H : es_Log c f q cut rm str ty fr byi val ver onn call oi jn ec cl) (hq : q ≤ q') : es_Log c f q' cut rm str ty fr byi val ver onn call oi jn ec cl := by
  obtain ⟨h0, h1, h2, h3, h4, h5, h6, h7, h8, h9⟩ := H
  refine ⟨h0, h1, h2, h3, h4, h5, h6, h7, fun i hi => ?_, h9⟩
  obtain ⟨m, hm, e⟩ := h8 i hi
  exact ⟨m, by omega, e⟩
theorem es_Log_flush (H : es_Log c f q cut rm str ty fr byi val ver onn call oi jn ec cl) : es_Log c c q cut rm str ty fr byi val ver onn call oi jn ec cl := by
  obtain ⟨h0, h1, h2, h3, h4, h5, h6, h7, h8, h9⟩ := H
  exact ⟨⟨h0.1, Nat.le_refl c, h0.2.2⟩, h1, h2, h3, fun i => ⟨(h4 i).1, fun hi => (h4 i).2 (by omega)⟩, h5, h6, h7, h8, h9⟩
theorem es_Log_rc (H : es_Log c f q cut rm str ty fr byi val ver onn call oi jn ec cl) {e : Nat} (h1 : f ≤ e) (h2 : e ≤ c) : es_rc rm e = es_rc rm c := by
  obtain ⟨h0, _, _, _, h4, _⟩ := H
  rw [es_rc_f c h0.2.1 (fun i g _ => (h4 i).2 g), es_rc_f e h1 (fun i g _ => (h4 i).2 g)]
theorem es_Log_crash (H : es_Log c f q cut rm str ty fr byi val ver onn call oi jn ec cl) {e : Nat} (he : f ≤ e) (hc : e ≤ c) {ec' cl' : Nat → Int32}
    (g1 : ∀ s, s < 5 → ec' s = nI (es_ev cut str (nI s) e)) (g2 : ∀ s, s < 5 → cl' s = es_cm cut str val (nI s) e) : es_Log e e q cut rm str ty fr byi val ver onn call oi jn ec' cl' := by
  have hr := es_Log_rc H he hc
  obtain ⟨h0, h1, h2, h3, h4, h5, h6, h7, h8, h9⟩ := H
  exact ⟨⟨by omega, by omega, by omega⟩, h1, h2, h3, fun i => ⟨(h4 i).1, fun hi => (h4 i).2 (by omega)⟩, g1, g2, fun i hi => h7 i (by omega), fun i hi => h8 i (by omega), fun j hj => h9 j (by omega)⟩
theorem es_Log_scav (H : es_Log c f q cut rm str ty fr byi val ver onn call oi jn ec cl) {rm' : Nat → Int32} (h : ∀ i, (rm' i = 0 ∨ rm' i = 1) ∧ (f ≤ i → rm' i = 0)) (hc : es_rc rm c ≤ es_rc rm' c) : es_Log c f q cut rm' str ty fr byi val ver onn call oi jn ec cl := by
  obtain ⟨h0, h1, h2, h3, h4, h5, h6, h7, h8, h9⟩ := H
  exact ⟨⟨h0.1, h0.2.1, by omega⟩, h1, h2, h3, h, h5, h6, h7, h8, h9⟩
theorem es_ev_add {b s s' : Int32} : es_ev (upd cut c b) (upd str c s) s' (c + 1) = if b = 0 ∧ s = s' then es_ev cut str s' c + 1 else es_ev cut str s' c := by
  rw [es_ev_s, pk_us, pk_us, es_ev_c c (fun i hi => ⟨pk_un (by omega), pk_un (by omega)⟩)]
theorem es_cm_add {b s s' v : Int32} : es_cm (upd cut c b) (upd str c s) (upd val c v) s' (c + 1) = if ¬ b = 0 ∧ s = s' ∧ es_cm cut str val s' c < v then v else es_cm cut str val s' c := by
  rw [es_cm_s, pk_us, pk_us, pk_us, es_cm_c c (fun i hi => ⟨pk_un (by omega), pk_un (by omega), pk_un (by omega)⟩)]
theorem es_rc_add (h : rm c = 0) : es_rc rm (c + 1) = es_rc rm c := by
  rw [es_rc_s, if_pos h]
/-- one record more -/
theorem es_Log_add (H : es_Log c f q cut rm str ty fr byi val ver onn call oi jn ec cl) {s t q' : Nat} {b v fo ov bv ev jv : Int32} {byi' ec' cl' : Nat → Int32}
    (hc : c < 2000) (hr : c - es_rc rm c < 40) (hs : s < 5) (ht : t < 8) (hq : q ≤ q')
    (hb : ∀ i, i < c → byi' i = byi i) (hbv : byi' c = bv)
    (ho : fo = -1 ∨ (b = 0 ∧ ev = bv ∧ ∃ o, o < c ∧ ov = nI o))
    (hj : 0 < c → (jv = 0 ↔ ¬ call (c - 1) = nI q'))
    (hec : ∀ s', s' < 5 → ec' s' = if b = 0 ∧ s' = s then ec s' + 1 else ec s')
    (hcl : ∀ s', s' < 5 → cl' s' = if ¬ b = 0 ∧ s' = s ∧ cl s' < v then v else cl s') :
    es_Log (c + 1) f q' (upd cut c b) rm (upd str c (nI s)) (upd ty c (nI t)) (upd fr c fo) byi' (upd val c v) (upd ver c (nI (es_ev cut str (nI s) c))) (upd onn c ov) (upd call c (nI q')) (upd oi c ev) (upd jn c jv) ec' cl' := by
  obtain ⟨h0, h1, h2, h3, h4, h5, h6, h7, h8, h9⟩ := H
  have hrc := es_rc_add ((h4 c).2 h0.2.1)
  refine ⟨⟨by omega, by omega, by omega⟩, fun i => ?_, fun i => ?_, fun i => ?_, h4, fun s' hs' => ?_, fun s' hs' => ?_, fun i hi => ?_, fun i hi => ?_, fun j hj' => ?_⟩
  · by_cases e : i = c
    · rw [e, pk_us]; exact ⟨s, hs, rfl⟩
    · rw [pk_un e]; exact h1 i
  · by_cases e : i = c
    · rw [e, pk_us]; exact ⟨t, ht, rfl⟩
    · rw [pk_un e]; exact h2 i
  · by_cases e : i = c
    · rw [e, pk_us]; exact ⟨_, by have := es_ev_le cut str (nI s) c; omega, rfl⟩
    · rw [pk_un e]; exact h3 i
  · rw [hec s' hs', es_ev_add, h5 s' hs']
    by_cases z : b = 0 ∧ s' = s
    · rw [if_pos z, if_pos ⟨z.1, by rw [z.2]⟩, nI_1]
    · rw [if_neg z, if_neg (fun w => z ⟨w.1, es_inj w.2.symm (by omega) (by omega)⟩)]
  · rw [hcl s' hs', es_cm_add, h6 s' hs']
    by_cases z : ¬ b = 0 ∧ s' = s ∧ es_cm cut str val (nI s') c < v
    · rw [if_pos z, if_pos ⟨z.1, by rw [z.2.1], z.2.2⟩]
    · rw [if_neg z, if_neg (fun w => z ⟨w.1, es_inj w.2.1.symm (by omega) (by omega), w.2.2⟩)]
  · by_cases e : i = c
    · subst e
      rw [pk_us, pk_us, pk_us, pk_us, hbv]
      exact ho
    · rw [pk_un e, pk_un e, pk_un e, pk_un e, hb i (by omega)]
      exact h7 i (by omega)
  · by_cases e : i = c
    · subst e
      rw [pk_us]; exact ⟨q', Nat.le_refl _, rfl⟩
    · rw [pk_un e]
      obtain ⟨m, hm, e2⟩ := h8 i (by omega)
      exact ⟨m, by omega, e2⟩
  · by_cases e : j + 1 = c
    · subst e
      rw [pk_us, pk_us, pk_un (by omega)]
      exact hj (by omega)
    · rw [pk_un e, pk_un e, pk_un (by omega)]
      exact h9 j (by omega)
theorem es_Log_fresh (H : es_Log c f q cut rm str ty fr byi val ver onn call oi jn ec cl) (hq : q + 1 < 2 ^ 31) (h : 0 < c) : ((0 : Int32) = 0 ↔ ¬ call (c - 1) = nI (q + 1)) := by
  obtain ⟨h0, h1, h2, h3, h4, h5, h6, h7, h8, h9⟩ := H
  obtain ⟨m, hm, e⟩ := h8 (c - 1) (by omega)
  refine ⟨fun _ => ?_, fun _ => rfl⟩
  rw [e]
  intro z
  have := es_inj z (by omega) hq
  omega
end
