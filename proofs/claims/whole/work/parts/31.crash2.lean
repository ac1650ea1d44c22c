section
variable {x_records x_removedCount x_flushed x_drafted x_height x_time x_foundAt : Int32} {x_recordStream x_recordType x_recordVersion x_recordValue x_originProjection x_originPosition x_originInstruction x_joined x_removed x_eventCount x_cutLevel x_draftType x_draftValue x_ops x_arguments x_programLength x_states x_noted x_stack x_metHeight x_groupType x_cursor x_keptCursor x_parked x_rowCount x_rowPosition x_rowTimes x_rowDue : Nat → Int32} {y_count y_flushed y_calls y_drafted y_top y_time : Int32} {y_isCut y_removed y_stream y_type y_from y_by y_value y_version y_on y_call y_draftType y_draftValue y_op y_with y_length y_height y_torn y_stack y_position y_cells y_noted y_wanted y_formed y_cursor y_parked y_where y_often y_due y_many y_found : Nat → Int32} {c f q : Nat} {cut rm str ty fr byi val ver onn call oi jn ec cl : Nat → Int32} {d : Nat} {L : Nat → Nat}
/-- KEPT states become the states again -/
def es_CX (st0 : Nat → Int32) (m : Nat) (st xn : Nat → Int32) : Prop :=
  (∀ p, p < m → xn p = 0 ∧ ∀ k, k < 11 → st (11 * p + k) = st0 (11 * (3 + p) + k)) ∧ (∀ j, 11 * m ≤ j → st j = st0 j)
def es_CY (po0 ce0 : Nat → Int32) (m : Nat) (po ce yn : Nat → Int32) : Prop :=
  (∀ p, p < m → yn p = 0 ∧ po p = po0 (3 + p) ∧ ∀ k, k < 10 → ce (10 * p + k) = ce0 (10 * (3 + p) + k)) ∧ (∀ r, m ≤ r → po r = po0 r) ∧ (∀ j, 10 * m ≤ j → ce j = ce0 j)
theorem ex_cr44 {post : Int32 → SX → Prop} {x2 : Int32} (hp : ∀ st xn, es_CX x_states 3 st xn → ∃ n, wX_crash_71 post x2 n 0 x_records x_removedCount x_flushed x_drafted x_height x_time x_foundAt x_recordStream x_recordType x_recordVersion x_recordValue x_originProjection x_originPosition x_originInstruction x_joined x_removed x_eventCount x_cutLevel x_draftType x_draftValue x_ops x_arguments x_programLength st xn x_stack x_metHeight x_groupType x_cursor x_keptCursor x_parked x_rowCount x_rowPosition x_rowTimes x_rowDue) : ∃ n, wX_crash_44 post x2 n 0 x_records x_removedCount x_flushed x_drafted x_height x_time x_foundAt x_recordStream x_recordType x_recordVersion x_recordValue x_originProjection x_originPosition x_originInstruction x_joined x_removed x_eventCount x_cutLevel x_draftType x_draftValue x_ops x_arguments x_programLength x_states x_noted x_stack x_metHeight x_groupType x_cursor x_keptCursor x_parked x_rowCount x_rowPosition x_rowTimes x_rowDue := by
  refine loop_0 (fun n i (s : (Nat → Int32) × (Nat → Int32)) => wX_crash_44 post x2 n (nI i) x_records x_removedCount x_flushed x_drafted x_height x_time x_foundAt x_recordStream x_recordType x_recordVersion x_recordValue x_originProjection x_originPosition x_originInstruction x_joined x_removed x_eventCount x_cutLevel x_draftType x_draftValue x_ops x_arguments x_programLength s.1 s.2 x_stack x_metHeight x_groupType x_cursor x_keptCursor x_parked x_rowCount x_rowPosition x_rowTimes x_rowDue) (fun i s => es_CX x_states i s.1 s.2) 3 (x_states, x_noted) ⟨fun p h => absurd h (Nat.not_lt_zero _), fun j _ => rfl⟩ ?_ ?_
  · intro n s hs
    exact br_t (by decide) (hp _ _ hs)
  · intro n i s hi hs ih
    obtain ⟨st, xn⟩ := s
    obtain ⟨h1, h2⟩ := hs
    refine br_f (nI_ge (b := 3) hi (by decide)) ⟨vp_in_nI hi (by decide), nm_r (e' := upd xn i 0) (by rw [nI_clamp (by omega), es_nb0]) ?_⟩
    refine ex_copyState (m1 := 1) (m2 := 0) (r1 := 3 + i) (r2 := i) (by omega) (by omega) hi (by omega) (by omega) (by omega) (nm_r (nI_1 _) (ih (es_cpy st (11 * i) (11 * (3 + i)) 11, upd xn i 0) ⟨fun p hp => ?_, fun j hj => ?_⟩))
    · by_cases e : p = i
      · subst e
        refine ⟨pk_us, fun k hk => ?_⟩
        show es_cpy st (11 * p) (11 * (3 + p)) 11 (11 * p + k) = _
        rw [es_cpy_i hk]
        exact h2 _ (by omega)
      · obtain ⟨a, b⟩ := h1 p (by omega)
        refine ⟨(pk_un e).trans a, fun k hk => ?_⟩
        show es_cpy st (11 * i) (11 * (3 + i)) 11 (11 * p + k) = _
        rw [es_cpy_o (by omega)]
        exact b k hk
    · show es_cpy st (11 * i) (11 * (3 + i)) 11 j = _
      rw [es_cpy_o (by omega)]
      exact h2 j (by omega)
theorem ey_cr104 {post : Int32 → SY → Prop} {x3 : Int32} (hp : ∀ po ce yn, es_CY y_position y_cells 3 po ce yn → ∃ n, wY_crash_137 post x3 y_count y_flushed y_calls y_drafted y_top y_time n 0 y_isCut y_removed y_stream y_type y_from y_by y_value y_version y_on y_call y_draftType y_draftValue y_op y_with y_length y_height y_torn y_stack po ce yn y_wanted y_formed y_cursor y_parked y_where y_often y_due y_many y_found) : ∃ n, wY_crash_104 post x3 n 0 y_count y_flushed y_calls y_drafted y_top y_time y_isCut y_removed y_stream y_type y_from y_by y_value y_version y_on y_call y_draftType y_draftValue y_op y_with y_length y_height y_torn y_stack y_position y_cells y_noted y_wanted y_formed y_cursor y_parked y_where y_often y_due y_many y_found := by
  refine loop_0 (fun n i (s : (Nat → Int32) × (Nat → Int32) × (Nat → Int32)) => wY_crash_104 post x3 n (nI i) y_count y_flushed y_calls y_drafted y_top y_time y_isCut y_removed y_stream y_type y_from y_by y_value y_version y_on y_call y_draftType y_draftValue y_op y_with y_length y_height y_torn y_stack s.1 s.2.1 s.2.2 y_wanted y_formed y_cursor y_parked y_where y_often y_due y_many y_found) (fun i s => es_CY y_position y_cells i s.1 s.2.1 s.2.2) 3 (y_position, y_cells, y_noted) ⟨fun p h => absurd h (Nat.not_lt_zero _), fun j _ => rfl, fun j _ => rfl⟩ ?_ ?_
  · intro n s hs
    exact br_t (by decide) (hp _ _ _ hs)
  · intro n i s hi hs ih
    obtain ⟨po, ce, yn⟩ := s
    obtain ⟨h1, h2, h3⟩ := hs
    have e3 : 3 + nI i = nI (3 + i) := nI_add 3 i
    refine br_f (nI_ge (b := 3) hi (by decide)) ⟨vp_in_nI hi (by decide), nm_r (e' := upd yn i 0) (by rw [nI_clamp (by omega), es_nb0]) ?_⟩
    rw [e3]
    refine ey_copyState (by omega) (by omega) (by omega) (nm_r (nI_1 _) (ih (upd po i (po (3 + i)), es_cpy ce (10 * i) (10 * (3 + i)) 10, upd yn i 0) ⟨fun p hp => ?_, fun r hr => ?_, fun j hj => ?_⟩))
    · by_cases e : p = i
      · subst e
        refine ⟨pk_us, pk_us.trans (h2 _ (by omega)), fun k hk => ?_⟩
        show es_cpy ce (10 * p) (10 * (3 + p)) 10 (10 * p + k) = _
        rw [es_cpy_i hk]
        exact h3 _ (by omega)
      · obtain ⟨a, b, b2⟩ := h1 p (by omega)
        refine ⟨(pk_un e).trans a, (pk_un e).trans b, fun k hk => ?_⟩
        show es_cpy ce (10 * i) (10 * (3 + i)) 10 (10 * p + k) = _
        rw [es_cpy_o (by omega)]
        exact b2 k hk
    · exact (pk_un (by omega)).trans (h2 r (by omega))
    · show es_cpy ce (10 * i) (10 * (3 + i)) 10 j = _
      rw [es_cpy_o (by omega)]
      exact h3 j (by omega)
theorem es_St_cr {st0 xn0 po0 ce0 yn0 st xn po ce yn : Nat → Int32} {e : Nat} {L' : Nat → Nat} (H : es_St c f L st0 xn0 po0 ce0 yn0) (he : f ≤ e) (hL : ∀ p, p < 3 → L' p = L p) (hx : es_CX st0 3 st xn) (hy : es_CY po0 ce0 3 po ce yn) : es_St e e L' st xn po ce yn := by
  intro p hp hl
  rw [hL p hp] at hl
  obtain ⟨_, ⟨⟨a, ha, e1, e2⟩, h⟩, _, _⟩ := H p hp hl
  obtain ⟨x1, x2⟩ := hx
  obtain ⟨y1, y2, y3⟩ := hy
  obtain ⟨b1, b2⟩ := x1 p hp
  obtain ⟨c1, c2, c3⟩ := y1 p hp
  refine ⟨⟨⟨a, by omega, (b2 10 (by omega)).trans e1, c2.trans e2⟩, fun k hk => ?_⟩, ⟨⟨a, by omega, (x2 _ (by omega)).trans e1, (y2 _ (by omega)).trans e2⟩, fun k hk => ?_⟩, ?_, fun z => absurd b1 z⟩
  · rw [b2 k (by omega), c3 k hk]; exact h k hk
  · rw [x2 _ (by omega), y3 _ (by omega)]; exact h k hk
  · rw [b1, c1]
end
