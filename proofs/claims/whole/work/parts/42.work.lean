section
/-! work -/
variable {x_records x_removedCount x_flushed x_drafted x_height x_time x_foundAt : Int32} {x_recordStream x_recordType x_recordVersion x_recordValue x_originProjection x_originPosition x_originInstruction x_joined x_removed x_eventCount x_cutLevel x_draftType x_draftValue x_ops x_arguments x_programLength x_states x_noted x_stack x_metHeight x_groupType x_cursor x_keptCursor x_parked x_rowCount x_rowPosition x_rowTimes x_rowDue : Nat → Int32} {y_count y_flushed y_calls y_drafted y_top y_time : Int32} {y_isCut y_removed y_stream y_type y_from y_by y_value y_version y_on y_call y_draftType y_draftValue y_op y_with y_length y_height y_torn y_stack y_position y_cells y_noted y_wanted y_formed y_cursor y_parked y_where y_often y_due y_many y_found : Nat → Int32} {c f q : Nat} {cut rm str ty fr byi val ver onn call oi jn ec cl : Nat → Int32} {d : Nat} {L : Nat → Nat} {p a D : Nat}
theorem em_fold (H : es_Q c f d L q (x_records, x_removedCount, x_flushed, x_drafted, x_height, x_time, x_foundAt, x_recordStream, x_recordType, x_recordVersion, x_recordValue, x_originProjection, x_originPosition, x_originInstruction, x_joined, x_removed, x_eventCount, x_cutLevel, x_draftType, x_draftValue, x_ops, x_arguments, x_programLength, x_states, x_noted, x_stack, x_metHeight, x_groupType, x_cursor, x_keptCursor, x_parked, x_rowCount, x_rowPosition, x_rowTimes, x_rowDue) (y_count, y_flushed, y_calls, y_drafted, y_top, y_time, y_isCut, y_removed, y_stream, y_type, y_from, y_by, y_value, y_version, y_on, y_call, y_draftType, y_draftValue, y_op, y_with, y_length, y_height, y_torn, y_stack, y_position, y_cells, y_noted, y_wanted, y_formed, y_cursor, y_parked, y_where, y_often, y_due, y_many, y_found)) (hp3 : p < 3) (hLp : 0 < L p) (hpo : x_states (11 * p + 10) = nI a) (hac : a < c) (hcut : y_isCut a = 0) (hq : q + 2000 = c + D) (hD : D ≤ 2 ^ 29) :
    (∃ (c' q' : Nat) (u' : SX) (v' : SY), es_Q c' f d L q' u' v' ∧ q' + 2000 = c' + D ∧ es_psn u' p = nI a ∧ a < c' ∧ (∀ post : Int32 → SX → Prop, post 1 u' → wpX_workOn post (x_records, x_removedCount, x_flushed, x_drafted, x_height, x_time, x_foundAt, x_recordStream, x_recordType, x_recordVersion, x_recordValue, x_originProjection, x_originPosition, x_originInstruction, x_joined, x_removed, x_eventCount, x_cutLevel, x_draftType, x_draftValue, x_ops, x_arguments, x_programLength, x_states, x_noted, x_stack, x_metHeight, x_groupType, x_cursor, x_keptCursor, x_parked, x_rowCount, x_rowPosition, x_rowTimes, x_rowDue) (nI p) (nI a)) ∧ (∀ post : Int32 → SY → Prop, post 1 v' → wpY_fold post (y_count, y_flushed, y_calls, y_drafted, y_top, y_time, y_isCut, y_removed, y_stream, y_type, y_from, y_by, y_value, y_version, y_on, y_call, y_draftType, y_draftValue, y_op, y_with, y_length, y_height, y_torn, y_stack, y_position, y_cells, y_noted, y_wanted, y_formed, y_cursor, y_parked, y_where, y_often, y_due, y_many, y_found) (nI p) (nI a))) ∨
    (∃ (c' q' : Nat) (u' : SX) (v' : SY), es_Q c' f d L q' u' v' ∧ q' + 2000 = c' + D ∧ (∀ post : Int32 → SX → Prop, post 0 u' → wpX_workOn post (x_records, x_removedCount, x_flushed, x_drafted, x_height, x_time, x_foundAt, x_recordStream, x_recordType, x_recordVersion, x_recordValue, x_originProjection, x_originPosition, x_originInstruction, x_joined, x_removed, x_eventCount, x_cutLevel, x_draftType, x_draftValue, x_ops, x_arguments, x_programLength, x_states, x_noted, x_stack, x_metHeight, x_groupType, x_cursor, x_keptCursor, x_parked, x_rowCount, x_rowPosition, x_rowTimes, x_rowDue) (nI p) (nI a)) ∧ (∀ post : Int32 → SY → Prop, post 0 v' → wpY_fold post (y_count, y_flushed, y_calls, y_drafted, y_top, y_time, y_isCut, y_removed, y_stream, y_type, y_from, y_by, y_value, y_version, y_on, y_call, y_draftType, y_draftValue, y_op, y_with, y_length, y_height, y_torn, y_stack, y_position, y_cells, y_noted, y_wanted, y_formed, y_cursor, y_parked, y_where, y_often, y_due, y_many, y_found) (nI p) (nI a))) := by
  obtain ⟨hL, hDr, hP, hS, hG, hF⟩ := H
  have hl := hL.2.2.2.2.2.2.2.2.2.2.2.2.2
  have hc2 : c ≤ 2000 := hl.1.1
  obtain ⟨s, hs5, es⟩ := hl.2.1 a
  obtain ⟨ty, hty, ety⟩ := hl.2.2.1 a
  obtain ⟨M, hM0, hM⟩ := hP.2.2.2.2 p hp3
  have hlen := hP.2.1 p
  have hE := (hS p hp3 hLp).1.2
  have hR : es_Rn f d L p a s (fun k => y_cells (10 * p + k)) (fun o w => o = y_op ∧ w = y_with) D 0 c q (x_records, x_removedCount, x_flushed, x_drafted, nI 0, x_time, x_foundAt, x_recordStream, x_recordType, x_recordVersion, x_recordValue, x_originProjection, x_originPosition, x_originInstruction, x_joined, x_removed, x_eventCount, x_cutLevel, x_draftType, x_draftValue, x_ops, x_arguments, x_programLength, x_states, x_noted, x_stack, x_metHeight, x_groupType, x_cursor, x_keptCursor, x_parked, x_rowCount, x_rowPosition, x_rowTimes, x_rowDue) (y_count, y_flushed, y_calls, y_drafted, nI 0, y_time, y_isCut, y_removed, y_stream, y_type, y_from, y_by, y_value, y_version, y_on, y_call, y_draftType, y_draftValue, y_op, y_with, y_length, y_height, y_torn, y_stack, y_position, es_cpy y_cells 90 (10 * p) 10, y_noted, y_wanted, y_formed, y_cursor, y_parked, y_where, y_often, y_due, y_many, y_found) := by
    refine ⟨⟨hL, hDr, hP, fun m hm hml => ?_, hG, hF⟩, hq, rfl, rfl, fun j hj => absurd hj (Nat.not_lt_zero _), fun k hk => es_cpy_i hk, fun k hk _ _ => hE k hk, hpo, hac, hcut, es, rfl, rfl⟩
    obtain ⟨a1, a2, a3, a4⟩ := hS m hm hml
    exact ⟨es_Eq_c a1 (fun k hk => rfl) rfl (fun k hk => es_cpy_o (by omega)), es_Eq_c a2 (fun k hk => rfl) rfl (fun k hk => es_cpy_o (by omega)), a3, fun z => es_Eq_c (a4 z) (fun k hk => rfl) rfl (fun k hk => es_cpy_o (by omega))⟩
  have hO := em_run (M := M) hp3 hs5 hLp hD hM (L p) 0 0 0 c q _ _ (by omega) hlen.2 (by omega) (by omega) (fun _ => hM0) hR
  have va : vp_in (nI a) 2000 := vp_in_nI (by omega) (by decide)
  have ca : (nI a).toNatClampNeg = a := nI_clamp (by omega)
  have nt : ¬ x_recordType (nI a).toNatClampNeg = -1 := by
    rw [ca, hL.2.2.2.2.2.2.2.1, es_T0 hcut, ety]; exact es_nm1 (by omega)
  have e3 : nI (11 * (3 * 0 + p)) + x_recordStream (nI a).toNatClampNeg * 2 = nI (11 * p + 2 * s) := by
    rw [ca, ← hL.2.2.2.2.2.2.1, es, show (2 : Int32) = nI 2 from rfl, pk_mul, nI_add]; congr 1; omega
  have v3 : vp_in (nI (11 * p + 2 * s)) 99 := vp_in_nI (by omega) (by decide)
  have e4 : nI (11 * p + 2 * s) + 1 = nI (11 * p + 2 * s + 1) := nI_1 _
  have v4 : vp_in (nI (11 * p + 2 * s) + 1) 99 := by rw [e4]; exact vp_in_nI (by omega) (by decide)
  have c3 : (nI (11 * p + 2 * s)).toNatClampNeg = 11 * p + 2 * s := nI_clamp (by omega)
  have c4 : (nI (11 * p + 2 * s) + 1).toNatClampNeg = 11 * p + 2 * s + 1 := by rw [e4, nI_clamp (by omega)]
  have y0 : ∀ (post : Int32 → SY → Prop) (r : Int32) (v' : SY), post r v' → (∀ (post : Int32 → SY → Prop) (n5 : Nat), L p < n5 → post r v' → wY_fold_17 post (nI p) (nI a) n5 (nI 0) y_count y_flushed y_calls y_drafted (nI 0) y_time y_isCut y_removed y_stream y_type y_from y_by y_value y_version y_on y_call y_draftType y_draftValue y_op y_with y_length y_height y_torn y_stack y_position (es_cpy y_cells 90 (10 * p) 10) y_noted y_wanted y_formed y_cursor y_parked y_where y_often y_due y_many y_found) → wpY_fold post (y_count, y_flushed, y_calls, y_drafted, y_top, y_time, y_isCut, y_removed, y_stream, y_type, y_from, y_by, y_value, y_version, y_on, y_call, y_draftType, y_draftValue, y_op, y_with, y_length, y_height, y_torn, y_stack, y_position, y_cells, y_noted, y_wanted, y_formed, y_cursor, y_parked, y_where, y_often, y_due, y_many, y_found) (nI p) (nI a) := by
    intro post r v' hp hY
    unfold wpY_fold
    dsimp only
    rw [es_10]
    exact ey_copyCells (a := 10 * p) (b := 90) (by omega) (by omega) (by omega) ⟨L p + 1, hY post (L p + 1) (by omega) hp⟩
  rcases hO with ⟨c', q', u', v', k1, k2, k3, k4, k5, k6⟩ | ⟨c', q', u', v', k1, k2, k5, k6⟩
  · refine Or.inl ⟨c', q', u', v', k1, k2, k3, k4, fun post hp => ?_, fun post hp => y0 post 1 v' hp k6⟩
    refine ⟨va, br_f nt (ex_stateBase (m := 0) ⟨va, nm_r e3 ⟨v3, nm_e ⟨v4, nm_e ⟨L p + 1, k5 _ (L p + 1) (by omega) ?_⟩⟩⟩⟩)⟩
    obtain ⟨x_records, x_removedCount, x_flushed, x_drafted, x_height, x_time, x_foundAt, x_recordStream, x_recordType, x_recordVersion, x_recordValue, x_originProjection, x_originPosition, x_originInstruction, x_joined, x_removed, x_eventCount, x_cutLevel, x_draftType, x_draftValue, x_ops, x_arguments, x_programLength, x_states, x_noted, x_stack, x_metHeight, x_groupType, x_cursor, x_keptCursor, x_parked, x_rowCount, x_rowPosition, x_rowTimes, x_rowDue⟩ := u'
    exact br_f (by decide) ⟨rfl, hp⟩
  · refine Or.inr ⟨c', q', es_rst u' (11 * p + 2 * s) (y_cells (10 * p + 2 * s)) (y_cells (10 * p + (2 * s + 1))), v', k1, k2, fun post hp => ?_, fun post hp => y0 post 0 v' hp k6⟩
    have hx0 : x_states (nI (11 * p + 2 * s)).toNatClampNeg = y_cells (10 * p + 2 * s) := by rw [c3]; exact hE (2 * s) (by omega)
    have hx1 : x_states (nI (11 * p + 2 * s) + 1).toNatClampNeg = y_cells (10 * p + (2 * s + 1)) := by rw [c4, Nat.add_assoc]; exact hE (2 * s + 1) (by omega)
    refine ⟨va, br_f nt (ex_stateBase (m := 0) ⟨va, nm_r e3 ⟨v3, nm_r hx0 ⟨v4, nm_r hx1 ⟨L p + 1, k5 _ (L p + 1) (by omega) ?_⟩⟩⟩⟩)⟩
    obtain ⟨w_1, w_2, w_3, w_4, w_5, w_6, w_7, w_8, w_9, w_10, w_11, w_12, w_13, w_14, w_15, w_16, w_17, w_18, w_19, w_20, w_21, w_22, w_23, w_24, w_25, w_26, w_27, w_28, w_29, w_30, w_31, w_32, w_33, w_34, w_35⟩ := u'
    refine br_t rfl ⟨v3, nm_r (e' := upd w_24 (11 * p + 2 * s) (y_cells (10 * p + 2 * s))) (by rw [c3]) ⟨v4, nm_r (e' := upd (upd w_24 (11 * p + 2 * s) (y_cells (10 * p + 2 * s))) (11 * p + 2 * s + 1) (y_cells (10 * p + (2 * s + 1)))) (by rw [c4]) ⟨rfl, hp⟩⟩⟩
theorem es_Q_adv (H : es_Q c f d L q (x_records, x_removedCount, x_flushed, x_drafted, x_height, x_time, x_foundAt, x_recordStream, x_recordType, x_recordVersion, x_recordValue, x_originProjection, x_originPosition, x_originInstruction, x_joined, x_removed, x_eventCount, x_cutLevel, x_draftType, x_draftValue, x_ops, x_arguments, x_programLength, x_states, x_noted, x_stack, x_metHeight, x_groupType, x_cursor, x_keptCursor, x_parked, x_rowCount, x_rowPosition, x_rowTimes, x_rowDue) (y_count, y_flushed, y_calls, y_drafted, y_top, y_time, y_isCut, y_removed, y_stream, y_type, y_from, y_by, y_value, y_version, y_on, y_call, y_draftType, y_draftValue, y_op, y_with, y_length, y_height, y_torn, y_stack, y_position, y_cells, y_noted, y_wanted, y_formed, y_cursor, y_parked, y_where, y_often, y_due, y_many, y_found)) (hp3 : p < 3) (hac : a + 1 ≤ c) :
    es_Q c f d L q (x_records, x_removedCount, x_flushed, x_drafted, x_height, x_time, x_foundAt, x_recordStream, x_recordType, x_recordVersion, x_recordValue, x_originProjection, x_originPosition, x_originInstruction, x_joined, x_removed, x_eventCount, x_cutLevel, x_draftType, x_draftValue, x_ops, x_arguments, x_programLength, upd x_states (11 * p + 10) (nI (a + 1)), x_noted, x_stack, x_metHeight, x_groupType, x_cursor, x_keptCursor, x_parked, x_rowCount, x_rowPosition, x_rowTimes, x_rowDue) (y_count, y_flushed, y_calls, y_drafted, y_top, y_time, y_isCut, y_removed, y_stream, y_type, y_from, y_by, y_value, y_version, y_on, y_call, y_draftType, y_draftValue, y_op, y_with, y_length, y_height, y_torn, y_stack, upd y_position p (nI (a + 1)), y_cells, y_noted, y_wanted, y_formed, y_cursor, y_parked, y_where, y_often, y_due, y_many, y_found) := by
  obtain ⟨hL, hDr, hP, hS, hG, hF⟩ := H
  refine ⟨hL, hDr, hP, fun m hm hml => ?_, hG, hF⟩
  obtain ⟨a1, a2, a3, a4⟩ := hS m hm hml
  refine ⟨?_, es_Eq_c a2 (fun k hk => pk_un (by omega)) (pk_un (by omega)) (fun k hk => rfl), a3, fun z => es_Eq_c (a4 z) (fun k hk => pk_un (by omega)) (pk_un (by omega)) (fun k hk => rfl)⟩
  by_cases w : m = p
  · subst w
    obtain ⟨_, b3⟩ := a1
    refine ⟨⟨a + 1, hac, pk_us, pk_us⟩, fun k hk => ?_⟩
    rw [pk_un (by omega)]; exact b3 k hk
  · exact es_Eq_c a1 (fun k hk => pk_un (by omega)) (pk_un w) (fun k hk => rfl)
theorem es_Q_c {u : SX} {v : SY} (H : es_Q c f d L q u v) : c ≤ 2000 := by
  obtain ⟨x_records, x_removedCount, x_flushed, x_drafted, x_height, x_time, x_foundAt, x_recordStream, x_recordType, x_recordVersion, x_recordValue, x_originProjection, x_originPosition, x_originInstruction, x_joined, x_removed, x_eventCount, x_cutLevel, x_draftType, x_draftValue, x_ops, x_arguments, x_programLength, x_states, x_noted, x_stack, x_metHeight, x_groupType, x_cursor, x_keptCursor, x_parked, x_rowCount, x_rowPosition, x_rowTimes, x_rowDue⟩ := u
  obtain ⟨y_count, y_flushed, y_calls, y_drafted, y_top, y_time, y_isCut, y_removed, y_stream, y_type, y_from, y_by, y_value, y_version, y_on, y_call, y_draftType, y_draftValue, y_op, y_with, y_length, y_height, y_torn, y_stack, y_position, y_cells, y_noted, y_wanted, y_formed, y_cursor, y_parked, y_where, y_often, y_due, y_many, y_found⟩ := v
  exact H.1.2.2.2.2.2.2.2.2.2.2.2.2.2.1.1
theorem em_work {nn : Nat} (hp3 : p < 3) (hLp : 0 < L p) (hnn : nn ≤ 20) (hD : D ≤ 2 ^ 29) : ∀ m j, j + m = nn → ∀ c q (u : SX) (v : SY), es_Q c f d L q u v → q + 2000 = c + D → ∃ (r : Int32) (c' q' : Nat) (u' : SX) (v' : SY), es_Q c' f d L q' u' v' ∧ q' + 2000 = c' + D ∧
    (∀ post : Int32 → SX → Prop, post r u' → match u with | (x_records, x_removedCount, x_flushed, x_drafted, x_height, x_time, x_foundAt, x_recordStream, x_recordType, x_recordVersion, x_recordValue, x_originProjection, x_originPosition, x_originInstruction, x_joined, x_removed, x_eventCount, x_cutLevel, x_draftType, x_draftValue, x_ops, x_arguments, x_programLength, x_states, x_noted, x_stack, x_metHeight, x_groupType, x_cursor, x_keptCursor, x_parked, x_rowCount, x_rowPosition, x_rowTimes, x_rowDue) => wX_work_46 post (nI p) (nI nn) (nI (11 * p + 10)) (m + 1) (nI j) x_records x_removedCount x_flushed x_drafted x_height x_time x_foundAt x_recordStream x_recordType x_recordVersion x_recordValue x_originProjection x_originPosition x_originInstruction x_joined x_removed x_eventCount x_cutLevel x_draftType x_draftValue x_ops x_arguments x_programLength x_states x_noted x_stack x_metHeight x_groupType x_cursor x_keptCursor x_parked x_rowCount x_rowPosition x_rowTimes x_rowDue) ∧
    (∀ post : Int32 → SY → Prop, post r v' → match v with | (y_count, y_flushed, y_calls, y_drafted, y_top, y_time, y_isCut, y_removed, y_stream, y_type, y_from, y_by, y_value, y_version, y_on, y_call, y_draftType, y_draftValue, y_op, y_with, y_length, y_height, y_torn, y_stack, y_position, y_cells, y_noted, y_wanted, y_formed, y_cursor, y_parked, y_where, y_often, y_due, y_many, y_found) => wY_work_35 post (nI p) (nI nn) (m + 1) (nI j) y_count y_flushed y_calls y_drafted y_top y_time y_isCut y_removed y_stream y_type y_from y_by y_value y_version y_on y_call y_draftType y_draftValue y_op y_with y_length y_height y_torn y_stack y_position y_cells y_noted y_wanted y_formed y_cursor y_parked y_where y_often y_due y_many y_found) := by
  intro m
  induction m with
  | zero =>
    intro j hj c q u v hQ hq
    obtain ⟨x_records, x_removedCount, x_flushed, x_drafted, x_height, x_time, x_foundAt, x_recordStream, x_recordType, x_recordVersion, x_recordValue, x_originProjection, x_originPosition, x_originInstruction, x_joined, x_removed, x_eventCount, x_cutLevel, x_draftType, x_draftValue, x_ops, x_arguments, x_programLength, x_states, x_noted, x_stack, x_metHeight, x_groupType, x_cursor, x_keptCursor, x_parked, x_rowCount, x_rowPosition, x_rowTimes, x_rowDue⟩ := u
    obtain ⟨y_count, y_flushed, y_calls, y_drafted, y_top, y_time, y_isCut, y_removed, y_stream, y_type, y_from, y_by, y_value, y_version, y_on, y_call, y_draftType, y_draftValue, y_op, y_with, y_length, y_height, y_torn, y_stack, y_position, y_cells, y_noted, y_wanted, y_formed, y_cursor, y_parked, y_where, y_often, y_due, y_many, y_found⟩ := v
    exact ⟨nI j, c, q, _, _, hQ, hq, fun post hp => br_t (nI_le (by omega) (by omega)) hp, fun post hp => br_t (nI_le (by omega) (by omega)) hp⟩
  | succ m ih =>
    intro j hj c q u v hQ hq
    obtain ⟨x_records, x_removedCount, x_flushed, x_drafted, x_height, x_time, x_foundAt, x_recordStream, x_recordType, x_recordVersion, x_recordValue, x_originProjection, x_originPosition, x_originInstruction, x_joined, x_removed, x_eventCount, x_cutLevel, x_draftType, x_draftValue, x_ops, x_arguments, x_programLength, x_states, x_noted, x_stack, x_metHeight, x_groupType, x_cursor, x_keptCursor, x_parked, x_rowCount, x_rowPosition, x_rowTimes, x_rowDue⟩ := u
    obtain ⟨y_count, y_flushed, y_calls, y_drafted, y_top, y_time, y_isCut, y_removed, y_stream, y_type, y_from, y_by, y_value, y_version, y_on, y_call, y_draftType, y_draftValue, y_op, y_with, y_length, y_height, y_torn, y_stack, y_position, y_cells, y_noted, y_wanted, y_formed, y_cursor, y_parked, y_where, y_often, y_due, y_many, y_found⟩ := v
    have hl := hQ.1.2.2.2.2.2.2.2.2.2.2.2.2.2
    have hc2 : c ≤ 2000 := hl.1.1
    have hr := hQ.1.1
    have hcn := hQ.1.2.1
    obtain ⟨⟨a, ha, e1, e2⟩, _⟩ := (hQ.2.2.2.1 p hp3 hLp).1
    have nj : ¬ nI nn ≤ nI j := nI_ge (by omega) (by omega)
    have v99 : vp_in (nI (11 * p + 10)) 99 := vp_in_nI (by omega) (by decide)
    have c99 : x_states (nI (11 * p + 10)).toNatClampNeg = nI a := by rw [nI_clamp (by omega), e1]
    have v9 : vp_in (nI p) 9 := vp_in_nI (by omega) (by decide)
    have c9 : y_position (nI p).toNatClampNeg = nI a := by rw [nI_clamp (by omega), e2]
    by_cases z : c ≤ a
    · refine ⟨nI j, c, q, _, _, hQ, hq, fun post hp => br_f nj ⟨v99, br_t ?_ hp⟩, fun post hp => br_f nj ⟨v9, br_t ?_ hp⟩⟩
      · rw [hr, c99]; exact nI_le z (by omega)
      · rw [hcn, c9]; exact nI_le z (by omega)
    · have nx : ¬ x_records ≤ x_states (nI (11 * p + 10)).toNatClampNeg := by rw [hr, c99]; exact nI_ge (by omega) (by omega)
      have ny : ¬ y_count ≤ y_position (nI p).toNatClampNeg := by rw [hcn, c9]; exact nI_ge (by omega) (by omega)
      have va : vp_in (y_position (nI p).toNatClampNeg) 2000 := by rw [c9]; exact vp_in_nI (by omega) (by decide)
      have ca : (y_position (nI p).toNatClampNeg).toNatClampNeg = a := by rw [c9, nI_clamp (by omega)]
      by_cases hcut : y_isCut a = 0
      · rcases em_fold hQ hp3 hLp e1 (by omega) hcut hq hD with ⟨c', q', u', v', k1, k2, k3, k4, k5, k6⟩ | ⟨c', q', u', v', k1, k2, k5, k6⟩
        · obtain ⟨w_1, w_2, w_3, w_4, w_5, w_6, w_7, w_8, w_9, w_10, w_11, w_12, w_13, w_14, w_15, w_16, w_17, w_18, w_19, w_20, w_21, w_22, w_23, w_24, w_25, w_26, w_27, w_28, w_29, w_30, w_31, w_32, w_33, w_34, w_35⟩ := u'
          obtain ⟨t_1, t_2, t_3, t_4, t_5, t_6, t_7, t_8, t_9, t_10, t_11, t_12, t_13, t_14, t_15, t_16, t_17, t_18, t_19, t_20, t_21, t_22, t_23, t_24, t_25, t_26, t_27, t_28, t_29, t_30, t_31, t_32, t_33, t_34, t_35, t_36⟩ := v'
          have kp : w_24 (11 * p + 10) = nI a := k3
          obtain ⟨⟨b, hb, f1, f2⟩, _⟩ := (k1.2.2.2.1 p hp3 hLp).1
          have kq : t_25 p = nI a := by rw [f2, ← f1]; exact kp
          have hA := es_Q_adv (a := a) k1 hp3 (by omega)
          obtain ⟨r, c2, q2, u2, v2, g1, g2, gX, gY⟩ := ih (j + 1) (by omega) c' q' _ _ hA k2
          refine ⟨r, c2, q2, u2, v2, g1, g2, fun post hp => br_f nj ⟨v99, br_f nx ⟨v99, ?_⟩⟩, fun post hp => br_f nj ⟨v9, br_f ny ⟨v9, va, br_t (by rw [ca]; exact hcut) ⟨v9, ?_⟩⟩⟩⟩
          · rw [c99]
            refine k5 _ (br_f (by decide) ⟨v99, v99, nm_r (e' := upd w_24 (11 * p + 10) (nI (a + 1))) ?_ (nm_r (nI_1 _) (gX post hp))⟩)
            rw [nI_clamp (by omega), kp, nI_1]
          · rw [c9]
            refine k6 _ (br_f (by decide) ⟨v9, v9, nm_r (e' := upd t_25 p (nI (a + 1))) ?_ (nm_r (nI_1 _) (gY post hp))⟩)
            rw [nI_clamp (by omega), kq, nI_1]
        · refine ⟨-3, c', q', u', v', k1, k2, fun post hp => br_f nj ⟨v99, br_f nx ⟨v99, ?_⟩⟩, fun post hp => br_f nj ⟨v9, br_f ny ⟨v9, va, br_t (by rw [ca]; exact hcut) ⟨v9, ?_⟩⟩⟩⟩
          · rw [c99]
            refine k5 _ ?_
            obtain ⟨x_records, x_removedCount, x_flushed, x_drafted, x_height, x_time, x_foundAt, x_recordStream, x_recordType, x_recordVersion, x_recordValue, x_originProjection, x_originPosition, x_originInstruction, x_joined, x_removed, x_eventCount, x_cutLevel, x_draftType, x_draftValue, x_ops, x_arguments, x_programLength, x_states, x_noted, x_stack, x_metHeight, x_groupType, x_cursor, x_keptCursor, x_parked, x_rowCount, x_rowPosition, x_rowTimes, x_rowDue⟩ := u'
            exact br_t rfl hp
          · rw [c9]
            refine k6 _ ?_
            obtain ⟨y_count, y_flushed, y_calls, y_drafted, y_top, y_time, y_isCut, y_removed, y_stream, y_type, y_from, y_by, y_value, y_version, y_on, y_call, y_draftType, y_draftValue, y_op, y_with, y_length, y_height, y_torn, y_stack, y_position, y_cells, y_noted, y_wanted, y_formed, y_cursor, y_parked, y_where, y_often, y_due, y_many, y_found⟩ := v'
            exact br_t rfl hp
      · have hA := es_Q_adv (a := a) hQ hp3 (by omega)
        obtain ⟨r, c2, q2, u2, v2, g1, g2, gX, gY⟩ := ih (j + 1) (by omega) c q _ _ hA hq
        refine ⟨r, c2, q2, u2, v2, g1, g2, fun post hp => br_f nj ⟨v99, br_f nx ⟨v99, ?_⟩⟩, fun post hp => br_f nj ⟨v9, br_f ny ⟨v9, va, br_f (by rw [ca]; exact hcut) ⟨v9, v9, nm_r (e' := upd y_position p (nI (a + 1))) ?_ (nm_r (nI_1 _) (gY post hp))⟩⟩⟩⟩
        · rw [c99]
          refine ⟨vp_in_nI (by omega) (by decide), br_t ?_ (br_f (by decide) ⟨v99, v99, nm_r (e' := upd x_states (11 * p + 10) (nI (a + 1))) ?_ (nm_r (nI_1 _) (gX post hp))⟩)⟩
          · rw [nI_clamp (by omega), hQ.1.2.2.2.2.2.2.2.1, es_T1 hcut]
          · rw [nI_clamp (by omega), e1, nI_1]
        · rw [nI_clamp (by omega), e2, nI_1]
theorem i_vc_work {k : Nat} {u : SX} {v : SY} (I : i_Rel k u v) (hk : k + 4 ≤ 2048) (v1 : Int32) (v2 : Int32) : wpX_work (fun r u' => wpY_work (fun r' v' => r' = r ∧ i_Rel (k + 4) u' v') v v1 v2) u v1 v2 := by
  obtain ⟨x_records, x_removedCount, x_flushed, x_drafted, x_height, x_time, x_foundAt, x_recordStream, x_recordType, x_recordVersion, x_recordValue, x_originProjection, x_originPosition, x_originInstruction, x_joined, x_removed, x_eventCount, x_cutLevel, x_draftType, x_draftValue, x_ops, x_arguments, x_programLength, x_states, x_noted, x_stack, x_metHeight, x_groupType, x_cursor, x_keptCursor, x_parked, x_rowCount, x_rowPosition, x_rowTimes, x_rowDue⟩ := u
  obtain ⟨y_count, y_flushed, y_calls, y_drafted, y_top, y_time, y_isCut, y_removed, y_stream, y_type, y_from, y_by, y_value, y_version, y_on, y_call, y_draftType, y_draftValue, y_op, y_with, y_length, y_height, y_torn, y_stack, y_position, y_cells, y_noted, y_wanted, y_formed, y_cursor, y_parked, y_where, y_often, y_due, y_many, y_found⟩ := v
  have J := i_up I
  obtain ⟨q, hq, c, f, d, L, hQ⟩ := I
  have hP := hQ.2.2.1
  have hc2 : c ≤ 2000 := hQ.1.2.2.2.2.2.2.2.2.2.2.2.2.2.1.1
  unfold wpX_work
  rcases es_rg v1 3 (by decide) with h | ⟨p, hp, rfl⟩
  · refine ex_isProj0 h (br_t rfl ?_)
    unfold wpY_work
    exact ey_outT 3 rfl h (br_f (by decide) ⟨rfl, J⟩)
  · refine ex_isProj1 hp (br_f (by decide) ?_)
    by_cases z1 : v2 < 1
    · refine br_t z1 ?_
      unfold wpY_work
      exact ey_outF 3 p rfl (by decide) hp (br_t rfl (br_t z1 ⟨rfl, J⟩))
    · by_cases z20 : v2 ≤ 20
      · have v4 : vp_in (nI p) 4 := vp_in_nI (by omega) (by decide)
        have hly : y_length (nI p).toNatClampNeg = nI (L p) := by rw [nI_clamp (by omega)]; exact (hP.2.1 p).1
        have hlx : x_programLength (nI p).toNatClampNeg = nI (L p) := by rw [nI_clamp (by omega), ← hP.1]; exact (hP.2.1 p).1
        have h14 := (hP.2.1 p).2
        by_cases l0 : L p = 0
        · refine br_f z1 (br_t z20 ⟨v4, br_t (by rw [hlx, l0]; rfl) ?_⟩)
          unfold wpY_work
          exact ey_outF 3 p rfl (by decide) hp (br_t rfl (br_f z1 (br_t z20 ⟨v4, br_t (by rw [hly, l0]; rfl) ⟨rfl, J⟩⟩)))
        · obtain ⟨nn, hnn, rfl⟩ := nI_of (x := v2) (fun w => z1 (es_lttr w (by decide)))
          have hn20 : nn ≤ 20 := (nI_leI (b := 20) hnn (by decide)).mp z20
          obtain ⟨r, c', q', u', v', g1, g2, gX, gY⟩ := em_work (D := q + 2000 - c) hp (by omega) hn20 (by omega) nn 0 (by omega) c q (x_records, x_removedCount, x_flushed, x_drafted, x_height, x_time, x_foundAt, x_recordStream, x_recordType, x_recordVersion, x_recordValue, x_originProjection, x_originPosition, x_originInstruction, x_joined, x_removed, x_eventCount, x_cutLevel, x_draftType, x_draftValue, x_ops, x_arguments, x_programLength, x_states, x_noted, x_stack, x_metHeight, x_groupType, x_cursor, x_keptCursor, x_parked, x_rowCount, x_rowPosition, x_rowTimes, x_rowDue) (y_count, y_flushed, y_calls, y_drafted, y_top, y_time, y_isCut, y_removed, y_stream, y_type, y_from, y_by, y_value, y_version, y_on, y_call, y_draftType, y_draftValue, y_op, y_with, y_length, y_height, y_torn, y_stack, y_position, y_cells, y_noted, y_wanted, y_formed, y_cursor, y_parked, y_where, y_often, y_due, y_many, y_found) hQ (by omega)
          refine br_f z1 (br_t z20 ⟨v4, br_f (by rw [hlx]; exact fun z => l0 ((es_eq0 (by omega)).mp z)) (ex_stateBase (m := 0) (nm_r (e' := nI (11 * p + 10)) ?_ ⟨_, gX _ ?_⟩))⟩)
          · rw [show 11 * (3 * 0 + p) = 11 * p by omega]; exact nI_add _ 10
          · unfold wpY_work
            refine ey_outF 3 p rfl (by decide) hp (br_t rfl (br_f z1 (br_t z20 ⟨v4, br_f (by rw [hly]; exact fun z => l0 ((es_eq0 (by omega)).mp z)) ⟨_, gY _ ⟨rfl, q', ?_, c', f, d, L, g1⟩⟩⟩)))
            have hc' : c' ≤ 2000 := es_Q_c g1
            omega
      · refine br_f z1 (br_f z20 ?_)
        unfold wpY_work
        exact ey_outF 3 p rfl (by decide) hp (br_t rfl (br_f z1 (br_f z20 ⟨rfl, J⟩)))
end
