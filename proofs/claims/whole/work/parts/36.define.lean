section
/-! define -/
variable {x_records x_removedCount x_flushed x_drafted x_height x_time x_foundAt : Int32} {x_recordStream x_recordType x_recordVersion x_recordValue x_originProjection x_originPosition x_originInstruction x_joined x_removed x_eventCount x_cutLevel x_draftType x_draftValue x_ops x_arguments x_programLength x_states x_noted x_stack x_metHeight x_groupType x_cursor x_keptCursor x_parked x_rowCount x_rowPosition x_rowTimes x_rowDue : Nat → Int32} {y_count y_flushed y_calls y_drafted y_top y_time : Int32} {y_isCut y_removed y_stream y_type y_from y_by y_value y_version y_on y_call y_draftType y_draftValue y_op y_with y_length y_height y_torn y_stack y_position y_cells y_noted y_wanted y_formed y_cursor y_parked y_where y_often y_due y_many y_found : Nat → Int32} {c f q : Nat} {cut rm str ty fr byi val ver onn call oi jn ec cl : Nat → Int32} {d : Nat} {L : Nat → Nat}
def es_fl (f : Nat → Int32) (v : Int32) (t m : Nat) : Nat → Int32 := fun j => if t ≤ j ∧ j < t + m then v else f j
theorem es_fl_0 {f : Nat → Int32} {v : Int32} {t : Nat} : es_fl f v t 0 = f := by
  funext j
  simp only [es_fl]
  rw [if_neg (by omega)]
theorem es_fl_s {f : Nat → Int32} {v : Int32} {t i : Nat} : upd (es_fl f v t i) (t + i) v = es_fl f v t (i + 1) := by
  funext j
  by_cases e : j = t + i
  · subst e
    rw [pk_us]
    simp only [es_fl]
    rw [if_pos (by omega)]
  · rw [pk_un e]
    simp only [es_fl]
    by_cases z : t ≤ j ∧ j < t + i
    · rw [if_pos z, if_pos (by omega)]
    · rw [if_neg z, if_neg (by omega)]
theorem es_fl_i {f : Nat → Int32} {v : Int32} {t m i : Nat} (h : i < m) : es_fl f v t m (t + i) = v := if_pos (by omega)
theorem es_fl_o {f : Nat → Int32} {v : Int32} {t m j : Nat} (h : j < t ∨ t + m ≤ j) : es_fl f v t m j = f j := if_neg (by omega)
theorem em_faulty {n : Nat} (h0 : 0 < n) (hn : n ≤ 14) (hlx : x_programLength 3 = nI n) (hly : y_length 3 = nI n) (hop : ∀ i, i < n → x_ops (42 + i) = y_op (42 + i) ∧ x_arguments (42 + i) = y_with (42 + i)) (ho : ∀ i, i < n → ∃ o, o < 14 ∧ y_op (42 + i) = nI o) :
    ∃ (o : Option Nat) (M' he' to' : Nat → Int32), (o = none → es_OK n (fun i => y_op (42 + i)) (fun i => y_with (42 + i))) ∧ (∀ b, o = some b → b < n) ∧
        (∀ post : Int32 → SX → Prop, post (es_ox o) (x_records, x_removedCount, x_flushed, x_drafted, x_height, x_time, x_foundAt, x_recordStream, x_recordType, x_recordVersion, x_recordValue, x_originProjection, x_originPosition, x_originInstruction, x_joined, x_removed, x_eventCount, x_cutLevel, x_draftType, x_draftValue, x_ops, x_arguments, x_programLength, x_states, x_noted, x_stack, M', x_groupType, x_cursor, x_keptCursor, x_parked, x_rowCount, x_rowPosition, x_rowTimes, x_rowDue) → wpX_firstFaulty post (x_records, x_removedCount, x_flushed, x_drafted, x_height, x_time, x_foundAt, x_recordStream, x_recordType, x_recordVersion, x_recordValue, x_originProjection, x_originPosition, x_originInstruction, x_joined, x_removed, x_eventCount, x_cutLevel, x_draftType, x_draftValue, x_ops, x_arguments, x_programLength, x_states, x_noted, x_stack, x_metHeight, x_groupType, x_cursor, x_keptCursor, x_parked, x_rowCount, x_rowPosition, x_rowTimes, x_rowDue)) ∧
        (∀ post : Int32 → SY → Prop, post (es_o1 o) (y_count, y_flushed, y_calls, y_drafted, y_top, y_time, y_isCut, y_removed, y_stream, y_type, y_from, y_by, y_value, y_version, y_on, y_call, y_draftType, y_draftValue, y_op, y_with, y_length, he', to', y_stack, y_position, y_cells, y_noted, y_wanted, y_formed, y_cursor, y_parked, y_where, y_often, y_due, y_many, y_found) → wpY_faulty post (y_count, y_flushed, y_calls, y_drafted, y_top, y_time, y_isCut, y_removed, y_stream, y_type, y_from, y_by, y_value, y_version, y_on, y_call, y_draftType, y_draftValue, y_op, y_with, y_length, y_height, y_torn, y_stack, y_position, y_cells, y_noted, y_wanted, y_formed, y_cursor, y_parked, y_where, y_often, y_due, y_many, y_found)) := by
  have hK0 : es_Chk n 0 (fun i => y_op (42 + i)) (fun i => y_with (42 + i)) (upd (es_fl x_metHeight (-1) 0 (n + 1)) 0 0) := by
    refine ⟨pk_us, fun j hj => ?_, fun j h => absurd h (Nat.not_lt_zero _), fun j h hj => absurd hj (Nat.not_lt_zero _)⟩
    by_cases e : j = 0
    · rw [e, pk_us]; exact Or.inr (Or.inr ⟨0, by omega, rfl⟩)
    · rw [pk_un e]
      have := es_fl_i (f := x_metHeight) (v := -1) (t := 0) (m := n + 1) (i := j) (by omega)
      rw [Nat.zero_add] at this
      exact Or.inl this
  have hC0 : es_Cr n (upd (es_fl x_metHeight (-1) 0 (n + 1)) 0 0) (upd (es_fl y_height (-1) 0 16) 0 0) (es_fl y_torn 0 0 16) := by
    intro j hj
    have t0 := es_fl_i (f := y_torn) (v := 0) (t := 0) (m := 16) (i := j) (by omega)
    rw [Nat.zero_add] at t0
    refine Or.inl ⟨t0, ?_, ?_⟩
    · by_cases e : j = 0
      · rw [e, pk_us, pk_us]
      · rw [pk_un e, pk_un e]
        have h1 := es_fl_i (f := x_metHeight) (v := -1) (t := 0) (m := n + 1) (i := j) (by omega)
        have h2 := es_fl_i (f := y_height) (v := -1) (t := 0) (m := 16) (i := j) (by omega)
        rw [Nat.zero_add] at h1 h2
        rw [h1, h2]
    · by_cases e : j = 0
      · rw [e, pk_us]; exact Or.inr ⟨0, by omega, rfl⟩
      · rw [pk_un e]
        have h2 := es_fl_i (f := y_height) (v := -1) (t := 0) (m := 16) (i := j) (by omega)
        rw [Nat.zero_add] at h2
        exact Or.inl h2
  obtain ⟨o, M', he', to', k1, k2, hX, hY⟩ := em_chk (x_ops := x_ops) (x_arguments := x_arguments) (y_op := y_op) (y_with := y_with) hn hop ho n 0 (by omega) (upd (es_fl x_metHeight (-1) 0 (n + 1)) 0 0) (upd (es_fl y_height (-1) 0 16) 0 0) (es_fl y_torn 0 0 16) hK0 hC0
  refine ⟨o, M', he', to', k1, k2, fun post hp => nm_r hlx ?_, fun post hp => nm_r hly ?_⟩
  · refine loop_0 (fun m i s => wX_firstFaulty_9 post (nI n) x_records x_removedCount x_flushed x_drafted x_height x_time x_foundAt m (nI i) x_recordStream x_recordType x_recordVersion x_recordValue x_originProjection x_originPosition x_originInstruction x_joined x_removed x_eventCount x_cutLevel x_draftType x_draftValue x_ops x_arguments x_programLength x_states x_noted x_stack s x_groupType x_cursor x_keptCursor x_parked x_rowCount x_rowPosition x_rowTimes x_rowDue) (fun i s => s = es_fl x_metHeight (-1) 0 i) (n + 1) _ es_fl_0.symm ?_ ?_
    · intro m s hs
      subst hs
      exact br_t (nI_lt (by omega) (by omega)) (nm_e ⟨_, hX post hp⟩)
    · intro m i s hi hs ih
      subst hs
      refine br_f (nI_nlt (by omega) (by omega)) ⟨vp_in_nI (by omega) (by decide), nm_r (e' := es_fl x_metHeight (-1) 0 (i + 1)) ?_ (nm_r (nI_1 _) (ih _ rfl))⟩
      rw [nI_clamp (by omega), ← es_fl_s, Nat.zero_add]
  · refine loop_0 (fun m i (s : (Nat → Int32) × (Nat → Int32)) => wY_faulty_9 post (nI n) y_count y_flushed y_calls y_drafted y_top y_time m (nI i) y_isCut y_removed y_stream y_type y_from y_by y_value y_version y_on y_call y_draftType y_draftValue y_op y_with y_length s.1 s.2 y_stack y_position y_cells y_noted y_wanted y_formed y_cursor y_parked y_where y_often y_due y_many y_found) (fun i s => s = (es_fl y_height (-1) 0 i, es_fl y_torn 0 0 i)) 16 (y_height, y_torn) (by rw [es_fl_0, es_fl_0]) ?_ ?_
    · intro m s hs
      subst hs
      exact br_t (by decide) (nm_r (e' := upd (es_fl y_height (-1) 0 16) 0 0) (by rw [es_nb_0]) ⟨_, hY post hp⟩)
    · intro m i s hi hs ih
      subst hs
      refine br_f (nI_ge (b := 16) hi (by decide)) ⟨vp_in_nI hi (by decide), nm_r (e' := es_fl y_height (-1) 0 (i + 1)) ?_ ⟨vp_in_nI hi (by decide), nm_r (e' := es_fl y_torn 0 0 (i + 1)) ?_ (nm_r (nI_1 _) (ih (_, _) rfl))⟩⟩
      · rw [nI_clamp (by omega), ← es_fl_s, Nat.zero_add, es_nbm]
      · rw [nI_clamp (by omega), ← es_fl_s, Nat.zero_add, es_nb0]
theorem es_14 (p : Nat) : nI p * 14 = nI (14 * p) := by
  rw [show (14 : Int32) = nI 14 from rfl, pk_mul, Nat.mul_comm]
theorem es_14y (p : Nat) : 14 * nI p = nI (14 * p) := by
  rw [show (14 : Int32) = nI 14 from rfl, pk_mul]
theorem ex_install {pst : SX → Prop} {p : Nat} (hp3 : p < 3)
    (hp : pst (x_records, x_removedCount, x_flushed, x_drafted, x_height, x_time, x_foundAt, x_recordStream, x_recordType, x_recordVersion, x_recordValue, x_originProjection, x_originPosition, x_originInstruction, x_joined, x_removed, x_eventCount, x_cutLevel, x_draftType, x_draftValue, es_cpy x_ops (14 * p) 42 14, es_cpy x_arguments (14 * p) 42 14, upd x_programLength p (x_programLength 3), es_cpy (upd (es_fl x_states 0 (11 * p) 11) (11 * p + 10) x_flushed) (11 * (3 + p)) (11 * p) 11, upd x_noted p 0, x_stack, x_metHeight, x_groupType, x_cursor, x_keptCursor, x_parked, x_rowCount, x_rowPosition, x_rowTimes, x_rowDue)) : wpX_install pst (x_records, x_removedCount, x_flushed, x_drafted, x_height, x_time, x_foundAt, x_recordStream, x_recordType, x_recordVersion, x_recordValue, x_originProjection, x_originPosition, x_originInstruction, x_joined, x_removed, x_eventCount, x_cutLevel, x_draftType, x_draftValue, x_ops, x_arguments, x_programLength, x_states, x_noted, x_stack, x_metHeight, x_groupType, x_cursor, x_keptCursor, x_parked, x_rowCount, x_rowPosition, x_rowTimes, x_rowDue) (nI p) := by
  refine loop_0 (fun n i (s : (Nat → Int32) × (Nat → Int32)) => wX_install_2 pst (nI p) x_records x_removedCount x_flushed x_drafted x_height x_time x_foundAt n (nI i) x_recordStream x_recordType x_recordVersion x_recordValue x_originProjection x_originPosition x_originInstruction x_joined x_removed x_eventCount x_cutLevel x_draftType x_draftValue s.1 s.2 x_programLength x_states x_noted x_stack x_metHeight x_groupType x_cursor x_keptCursor x_parked x_rowCount x_rowPosition x_rowTimes x_rowDue) (fun i s => s = (es_cpy x_ops (14 * p) 42 i, es_cpy x_arguments (14 * p) 42 i)) 14 (x_ops, x_arguments) (by rw [es_cpy_0, es_cpy_0]) ?_ ?_
  · intro n s hs
    subst hs
    refine br_t (by decide) ⟨vp_in_nI (by omega) (by decide), nm_r (e' := upd x_programLength p (x_programLength 3)) (by rw [nI_clamp (by omega)]) (ex_stateBase (m := 0) ?_)⟩
    rw [show 11 * (3 * 0 + p) = 11 * p by omega]
    refine loop_0 (fun n i s => wX_install_75 pst (nI p) (nI (11 * p)) x_records x_removedCount x_flushed x_drafted x_height x_time x_foundAt n (nI i) x_recordStream x_recordType x_recordVersion x_recordValue x_originProjection x_originPosition x_originInstruction x_joined x_removed x_eventCount x_cutLevel x_draftType x_draftValue (es_cpy x_ops (14 * p) 42 14) (es_cpy x_arguments (14 * p) 42 14) (upd x_programLength p (x_programLength 3)) s x_noted x_stack x_metHeight x_groupType x_cursor x_keptCursor x_parked x_rowCount x_rowPosition x_rowTimes x_rowDue) (fun i s => s = es_fl x_states 0 (11 * p) i) 11 _ es_fl_0.symm ?_ ?_
    · intro n s hs
      subst hs
      have e10 : nI (11 * p) + 10 = nI (11 * p + 10) := nI_add _ 10
      refine br_t (by decide) ⟨by rw [e10]; exact vp_in_nI (by omega) (by decide), nm_r (e' := upd (es_fl x_states 0 (11 * p) 11) (11 * p + 10) x_flushed) (by rw [e10, nI_clamp (by omega)]) ?_⟩
      exact ex_copyState (m1 := 0) (m2 := 1) (r1 := p) (r2 := 3 + p) (by omega) (by omega) hp3 (by omega) (by omega) (by omega) ⟨vp_in_nI hp3 (by decide), nm_r (e' := upd x_noted p 0) (by rw [nI_clamp (by omega), es_nb0]) hp⟩
    · intro n i s hi hs ih
      subst hs
      refine br_f (nI_ge (b := 11) hi (by decide)) ?_
      rw [nI_add, nI_clamp (by omega)]
      exact ⟨vp_in_nI (by omega) (by decide), nm_r es_fl_s (nm_r (nI_1 _) (ih _ rfl))⟩
  · intro n i s hi hs ih
    subst hs
    have e42 : 42 + nI i = nI (42 + i) := nI_add 42 i
    refine br_f (nI_ge (b := 14) hi (by decide)) ?_
    rw [es_14, nI_add, e42, nI_clamp (by omega), nI_clamp (by omega)]
    exact ⟨vp_in_nI (by omega) (by decide), vp_in_nI (by omega) (by decide), nm_r (es_cpy_s (by omega)) ⟨vp_in_nI (by omega) (by decide), vp_in_nI (by omega) (by decide), nm_r (es_cpy_s (by omega)) (nm_r (nI_1 _) (ih (_, _) rfl))⟩⟩
theorem ey_def {post : Int32 → SY → Prop} {p n : Nat} (hp3 : p < 3) (hn : n ≤ 14) (ho : ∀ i, i < n → ∃ o, o < 14 ∧ y_op (42 + i) = nI o)
    (hp : post 0 (y_count, y_flushed, y_calls, y_drafted, y_top, y_time, y_isCut, y_removed, y_stream, y_type, y_from, y_by, y_value, y_version, y_on, y_call, y_draftType, y_draftValue, es_cpy y_op (14 * p) 42 n, es_cpy y_with (14 * p) 42 n, y_length, y_height, y_torn, y_stack, upd (upd y_position p y_flushed) (3 + p) y_flushed, es_cpy (es_fl y_cells 0 (10 * p) 10) (10 * (3 + p)) (10 * p) 10, upd y_noted p 0, y_wanted, y_formed, y_cursor, y_parked, y_where, y_often, y_due, y_many, y_found)) : ∃ m, wY_define_58 post (nI p) (nI n) y_count y_flushed y_calls y_drafted y_top y_time m 0 y_isCut y_removed y_stream y_type y_from y_by y_value y_version y_on y_call y_draftType y_draftValue y_op y_with y_length y_height y_torn y_stack y_position y_cells y_noted y_wanted y_formed y_cursor y_parked y_where y_often y_due y_many y_found := by
  refine loop_0 (fun m i (s : (Nat → Int32) × (Nat → Int32)) => wY_define_58 post (nI p) (nI n) y_count y_flushed y_calls y_drafted y_top y_time m (nI i) y_isCut y_removed y_stream y_type y_from y_by y_value y_version y_on y_call y_draftType y_draftValue s.1 s.2 y_length y_height y_torn y_stack y_position y_cells y_noted y_wanted y_formed y_cursor y_parked y_where y_often y_due y_many y_found) (fun i s => s = (es_cpy y_op (14 * p) 42 i, es_cpy y_with (14 * p) 42 i)) n (y_op, y_with) (by rw [es_cpy_0, es_cpy_0]) ?_ ?_
  · intro m s hs
    subst hs
    refine br_t (Int32.le_refl _) ⟨vp_in_nI (by omega) (by decide), nm_r (e' := upd y_position p y_flushed) (by rw [nI_clamp (by omega)]) ?_⟩
    refine loop_0 (fun m i s => wY_define_127 post (nI p) y_count y_flushed y_calls y_drafted y_top y_time m (nI i) y_isCut y_removed y_stream y_type y_from y_by y_value y_version y_on y_call y_draftType y_draftValue (es_cpy y_op (14 * p) 42 n) (es_cpy y_with (14 * p) 42 n) y_length y_height y_torn y_stack (upd y_position p y_flushed) s y_noted y_wanted y_formed y_cursor y_parked y_where y_often y_due y_many y_found) (fun i s => s = es_fl y_cells 0 (10 * p) i) 10 _ es_fl_0.symm ?_ ?_
    · intro m s hs
      subst hs
      have e3 : 3 + nI p = nI (3 + p) := nI_add 3 p
      refine br_t (by decide) ?_
      rw [e3]
      refine ey_copyState (by omega) (by omega) (by omega) ⟨vp_in_nI hp3 (by decide), nm_r (e' := upd y_noted p 0) (by rw [nI_clamp (by omega), es_nb0]) ?_⟩
      rw [pk_us]
      exact hp
    · intro m i s hi hs ih
      subst hs
      refine br_f (nI_ge (b := 10) hi (by decide)) ?_
      rw [es_10, nI_add, nI_clamp (by omega)]
      exact ⟨vp_in_nI (by omega) (by decide), nm_r es_fl_s (nm_r (nI_1 _) (ih _ rfl))⟩
  · intro m i s hi hs ih
    subst hs
    obtain ⟨o, ho14, eo⟩ := ho i hi
    have e42 : 42 + nI i = nI (42 + i) := nI_add 42 i
    refine br_f (nI_ge hi (by omega)) ?_
    rw [es_14y, nI_add, e42, nI_clamp (by omega), nI_clamp (by omega)]
    refine ⟨vp_in_nI (by omega) (by decide), vp_in_nI (by omega) (by decide), nm_r (e' := es_cpy y_op (14 * p) 42 (i + 1)) ?_ ⟨vp_in_nI (by omega) (by decide), vp_in_nI (by omega) (by decide), nm_r (es_cpy_s (by omega)) (nm_r (nI_1 _) (ih (_, _) rfl))⟩⟩
    have e : es_cpy y_op (14 * p) 42 i (42 + i) = nI o := (es_cpy_o (by omega)).trans eo
    show upd (es_cpy y_op (14 * p) 42 i) (14 * p + i) (vp_nar .byte (es_cpy y_op (14 * p) 42 i (42 + i))) = _
    rw [← es_cpy_s (by omega), e, (es_nar o (by omega)).1]
end
