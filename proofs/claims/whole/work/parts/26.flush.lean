section
/-! flush -/
variable {x_records x_removedCount x_flushed x_drafted x_height x_time x_foundAt : Int32} {x_recordStream x_recordType x_recordVersion x_recordValue x_originProjection x_originPosition x_originInstruction x_joined x_removed x_eventCount x_cutLevel x_draftType x_draftValue x_ops x_arguments x_programLength x_states x_noted x_stack x_metHeight x_groupType x_cursor x_keptCursor x_parked x_rowCount x_rowPosition x_rowTimes x_rowDue : Nat → Int32} {y_count y_flushed y_calls y_drafted y_top y_time : Int32} {y_isCut y_removed y_stream y_type y_from y_by y_value y_version y_on y_call y_draftType y_draftValue y_op y_with y_length y_height y_torn y_stack y_position y_cells y_noted y_wanted y_formed y_cursor y_parked y_where y_often y_due y_many y_found : Nat → Int32} {c f q : Nat} {cut rm str ty fr byi val ver onn call oi jn ec cl : Nat → Int32} {d : Nat} {L : Nat → Nat} {g nt nw nk u k : Nat} {T W : Nat → Int32}
theorem em_kT (hg : g < 2) : ∀ r i, i + r = nt → ∀ (s : SX) (v : SY), es_KI c d L q g nt nw u T W i 0 s v → ∃ (s' : SX) (v' : SY), es_KI c d L q g nt nw u T W nt 0 s' v' ∧
    (∀ post : SX → Prop, post s' → match s with | (x_records, x_removedCount, x_flushed, x_drafted, x_height, x_time, x_foundAt, x_recordStream, x_recordType, x_recordVersion, x_recordValue, x_originProjection, x_originPosition, x_originInstruction, x_joined, x_removed, x_eventCount, x_cutLevel, x_draftType, x_draftValue, x_ops, x_arguments, x_programLength, x_states, x_noted, x_stack, x_metHeight, x_groupType, x_cursor, x_keptCursor, x_parked, x_rowCount, x_rowPosition, x_rowTimes, x_rowDue) => wX_keepRow_16 post (nI (3 * g)) (nI (3 * g + 2)) (r + 1) (nI i) x_records x_removedCount x_flushed x_drafted x_height x_time x_foundAt x_recordStream x_recordType x_recordVersion x_recordValue x_originProjection x_originPosition x_originInstruction x_joined x_removed x_eventCount x_cutLevel x_draftType x_draftValue x_ops x_arguments x_programLength x_states x_noted x_stack x_metHeight x_groupType x_cursor x_keptCursor x_parked x_rowCount x_rowPosition x_rowTimes x_rowDue) ∧
    (∀ post : SY → Prop, (match v' with | (y_count, y_flushed, y_calls, y_drafted, y_top, y_time, y_isCut, y_removed, y_stream, y_type, y_from, y_by, y_value, y_version, y_on, y_call, y_draftType, y_draftValue, y_op, y_with, y_length, y_height, y_torn, y_stack, y_position, y_cells, y_noted, y_wanted, y_formed, y_cursor, y_parked, y_where, y_often, y_due, y_many, y_found) => ∃ n, wY_keep_72 post (nI g) n 0 y_count y_flushed y_calls y_drafted y_top y_time y_isCut y_removed y_stream y_type y_from y_by y_value y_version y_on y_call y_draftType y_draftValue y_op y_with y_length y_height y_torn y_stack y_position y_cells y_noted y_wanted y_formed y_cursor y_parked y_where y_often y_due y_many y_found) → match v with | (y_count, y_flushed, y_calls, y_drafted, y_top, y_time, y_isCut, y_removed, y_stream, y_type, y_from, y_by, y_value, y_version, y_on, y_call, y_draftType, y_draftValue, y_op, y_with, y_length, y_height, y_torn, y_stack, y_position, y_cells, y_noted, y_wanted, y_formed, y_cursor, y_parked, y_where, y_often, y_due, y_many, y_found) => wY_keep_25 post (nI g) (r + 1) (nI i) y_count y_flushed y_calls y_drafted y_top y_time y_isCut y_removed y_stream y_type y_from y_by y_value y_version y_on y_call y_draftType y_draftValue y_op y_with y_length y_height y_torn y_stack y_position y_cells y_noted y_wanted y_formed y_cursor y_parked y_where y_often y_due y_many y_found) := by
  intro r
  induction r with
  | zero =>
    intro i hi s v H
    obtain ⟨x_records, x_removedCount, x_flushed, x_drafted, x_height, x_time, x_foundAt, x_recordStream, x_recordType, x_recordVersion, x_recordValue, x_originProjection, x_originPosition, x_originInstruction, x_joined, x_removed, x_eventCount, x_cutLevel, x_draftType, x_draftValue, x_ops, x_arguments, x_programLength, x_states, x_noted, x_stack, x_metHeight, x_groupType, x_cursor, x_keptCursor, x_parked, x_rowCount, x_rowPosition, x_rowTimes, x_rowDue⟩ := s
    obtain ⟨y_count, y_flushed, y_calls, y_drafted, y_top, y_time, y_isCut, y_removed, y_stream, y_type, y_from, y_by, y_value, y_version, y_on, y_call, y_draftType, y_draftValue, y_op, y_with, y_length, y_height, y_torn, y_stack, y_position, y_cells, y_noted, y_wanted, y_formed, y_cursor, y_parked, y_where, y_often, y_due, y_many, y_found⟩ := v
    have hgr := H.2.2.1
    have e : i = nt := by omega
    subst e
    refine ⟨_, _, H, fun post hp => ⟨vp_in_nI (by omega) (by decide), br_t ?_ hp⟩, fun post hp => ⟨vp_in_nI (by omega) (by decide), br_t ?_ hp⟩⟩
    · rw [nI_clamp (by omega), hgr.2.2.1.1]; exact Int32.le_refl _
    · rw [nI_clamp (by omega), hgr.2.2.1.2.1]; exact Int32.le_refl _
  | succ r ih =>
    intro i hi s v H
    obtain ⟨x_records, x_removedCount, x_flushed, x_drafted, x_height, x_time, x_foundAt, x_recordStream, x_recordType, x_recordVersion, x_recordValue, x_originProjection, x_originPosition, x_originInstruction, x_joined, x_removed, x_eventCount, x_cutLevel, x_draftType, x_draftValue, x_ops, x_arguments, x_programLength, x_states, x_noted, x_stack, x_metHeight, x_groupType, x_cursor, x_keptCursor, x_parked, x_rowCount, x_rowPosition, x_rowTimes, x_rowDue⟩ := s
    obtain ⟨y_count, y_flushed, y_calls, y_drafted, y_top, y_time, y_isCut, y_removed, y_stream, y_type, y_from, y_by, y_value, y_version, y_on, y_call, y_draftType, y_draftValue, y_op, y_with, y_length, y_height, y_torn, y_stack, y_position, y_cells, y_noted, y_wanted, y_formed, y_cursor, y_parked, y_where, y_often, y_due, y_many, y_found⟩ := v
    obtain ⟨hQ, hz, hgr, hT, hW, hM⟩ := H
    have hn6 := hgr.1.2.2.1
    have hit : i < nt := by omega
    obtain ⟨⟨a, ha, ea⟩, hwh, hof⟩ := hgr.2.2.2.1 i hit
    have e6 : 6 * (3 * g) + i = 18 * g + i := by omega
    obtain ⟨s', v', hK, hX, hY⟩ := em_kins (na' := i + 1) (nb' := 0) (r := 3 * g) (i := i) (x := x_rowPosition (18 * g + i)) (tm := x_rowTimes (18 * g + i)) ⟨hQ, hz, hgr, hT, hW, hM⟩ hg (by omega) (by omega) (by omega) (by omega) (by omega) (by omega) ha ea
      (fun j hj e => by
        rw [← hT j (by omega)] at e
        have := hgr.2.2.2.2.2.2.2.1 j i (by omega) hit e
        omega)
      (fun j hj => absurd hj (Nat.not_lt_zero _)) (Or.inl ⟨i, by omega, hT i hit⟩) (by rw [e6])
    obtain ⟨s2, v2, hK2, hX2, hY2⟩ := ih (i + 1) (by omega) s' v' hK
    refine ⟨s2, v2, hK2, fun post hp => ⟨vp_in_nI (by omega) (by decide), br_f ?_ ?_⟩, fun post hp => ⟨vp_in_nI (by omega) (by decide), br_f ?_ ?_⟩⟩
    · rw [nI_clamp (by omega), hgr.2.2.1.1]; exact nI_ge hit (by omega)
    · have c1 : (nI (3 * g) * 6 + nI i).toNatClampNeg = 18 * g + i := by rw [es_6, nI_add, nI_clamp (by omega), e6]
      have v1 : vp_in (nI (3 * g) * 6 + nI i) 36 := by rw [es_6, nI_add]; exact vp_in_nI (by omega) (by decide)
      rw [c1]
      exact ⟨v1, nm_e (hX post (fun x5 s => match s with | (x_records, x_removedCount, x_flushed, x_drafted, x_height, x_time, x_foundAt, x_recordStream, x_recordType, x_recordVersion, x_recordValue, x_originProjection, x_originPosition, x_originInstruction, x_joined, x_removed, x_eventCount, x_cutLevel, x_draftType, x_draftValue, x_ops, x_arguments, x_programLength, x_states, x_noted, x_stack, x_metHeight, x_groupType, x_cursor, x_keptCursor, x_parked, x_rowCount, x_rowPosition, x_rowTimes, x_rowDue) => wX_keepRow_16 post (nI (3 * g)) (nI (3 * g + 2)) (r + 1) x5 x_records x_removedCount x_flushed x_drafted x_height x_time x_foundAt x_recordStream x_recordType x_recordVersion x_recordValue x_originProjection x_originPosition x_originInstruction x_joined x_removed x_eventCount x_cutLevel x_draftType x_draftValue x_ops x_arguments x_programLength x_states x_noted x_stack x_metHeight x_groupType x_cursor x_keptCursor x_parked x_rowCount x_rowPosition x_rowTimes x_rowDue) (hX2 post hp))⟩
    · rw [nI_clamp (by omega), hgr.2.2.1.2.1]; exact nI_ge hit (by omega)
    · have c1 : (8 * nI g + nI i).toNatClampNeg = 8 * g + i := by rw [es_8, nI_add, nI_clamp (by omega)]
      have v1 : vp_in (8 * nI g + nI i) 64 := by rw [es_8, nI_add]; exact vp_in_nI (by omega) (by decide)
      refine ⟨v1, v1, ?_⟩
      rw [c1, hwh, hof, es_4g]
      have h2 := hY2 post hp
      refine hY _ ?_
      obtain ⟨y_count, y_flushed, y_calls, y_drafted, y_top, y_time, y_isCut, y_removed, y_stream, y_type, y_from, y_by, y_value, y_version, y_on, y_call, y_draftType, y_draftValue, y_op, y_with, y_length, y_height, y_torn, y_stack, y_position, y_cells, y_noted, y_wanted, y_formed, y_cursor, y_parked, y_where, y_often, y_due, y_many, y_found⟩ := v'
      exact nm_r (nI_1 _) h2
theorem em_kW (hg : g < 2) : ∀ r i, i + r = nw → ∀ (s : SX) (v : SY), es_KI c d L q g nt nw u T W nt i s v → ∃ (s' : SX) (v' : SY), es_KI c d L q g nt nw u T W nt nw s' v' ∧
    (∀ post : SX → Prop, post s' → match s with | (x_records, x_removedCount, x_flushed, x_drafted, x_height, x_time, x_foundAt, x_recordStream, x_recordType, x_recordVersion, x_recordValue, x_originProjection, x_originPosition, x_originInstruction, x_joined, x_removed, x_eventCount, x_cutLevel, x_draftType, x_draftValue, x_ops, x_arguments, x_programLength, x_states, x_noted, x_stack, x_metHeight, x_groupType, x_cursor, x_keptCursor, x_parked, x_rowCount, x_rowPosition, x_rowTimes, x_rowDue) => wX_keepRow_16 post (nI (3 * g + 1)) (nI (3 * g + 2)) (r + 1) (nI i) x_records x_removedCount x_flushed x_drafted x_height x_time x_foundAt x_recordStream x_recordType x_recordVersion x_recordValue x_originProjection x_originPosition x_originInstruction x_joined x_removed x_eventCount x_cutLevel x_draftType x_draftValue x_ops x_arguments x_programLength x_states x_noted x_stack x_metHeight x_groupType x_cursor x_keptCursor x_parked x_rowCount x_rowPosition x_rowTimes x_rowDue) ∧
    (∀ post : SY → Prop, post v' → match v with | (y_count, y_flushed, y_calls, y_drafted, y_top, y_time, y_isCut, y_removed, y_stream, y_type, y_from, y_by, y_value, y_version, y_on, y_call, y_draftType, y_draftValue, y_op, y_with, y_length, y_height, y_torn, y_stack, y_position, y_cells, y_noted, y_wanted, y_formed, y_cursor, y_parked, y_where, y_often, y_due, y_many, y_found) => wY_keep_72 post (nI g) (r + 1) (nI i) y_count y_flushed y_calls y_drafted y_top y_time y_isCut y_removed y_stream y_type y_from y_by y_value y_version y_on y_call y_draftType y_draftValue y_op y_with y_length y_height y_torn y_stack y_position y_cells y_noted y_wanted y_formed y_cursor y_parked y_where y_often y_due y_many y_found) := by
  intro r
  induction r with
  | zero =>
    intro i hi s v H
    obtain ⟨x_records, x_removedCount, x_flushed, x_drafted, x_height, x_time, x_foundAt, x_recordStream, x_recordType, x_recordVersion, x_recordValue, x_originProjection, x_originPosition, x_originInstruction, x_joined, x_removed, x_eventCount, x_cutLevel, x_draftType, x_draftValue, x_ops, x_arguments, x_programLength, x_states, x_noted, x_stack, x_metHeight, x_groupType, x_cursor, x_keptCursor, x_parked, x_rowCount, x_rowPosition, x_rowTimes, x_rowDue⟩ := s
    obtain ⟨y_count, y_flushed, y_calls, y_drafted, y_top, y_time, y_isCut, y_removed, y_stream, y_type, y_from, y_by, y_value, y_version, y_on, y_call, y_draftType, y_draftValue, y_op, y_with, y_length, y_height, y_torn, y_stack, y_position, y_cells, y_noted, y_wanted, y_formed, y_cursor, y_parked, y_where, y_often, y_due, y_many, y_found⟩ := v
    have hgr := H.2.2.1
    have e : i = nw := by omega
    subst e
    refine ⟨_, _, H, fun post hp => ⟨vp_in_nI (by omega) (by decide), br_t ?_ hp⟩, fun post hp => ⟨by rw [es_2g]; exact vp_in_nI (by omega) (by decide), br_t ?_ hp⟩⟩
    · rw [nI_clamp (by omega), hgr.2.2.1.2.2.1]; exact Int32.le_refl _
    · rw [es_2g, nI_clamp (by omega), hgr.2.2.1.2.2.2.1]; exact Int32.le_refl _
  | succ r ih =>
    intro i hi s v H
    obtain ⟨x_records, x_removedCount, x_flushed, x_drafted, x_height, x_time, x_foundAt, x_recordStream, x_recordType, x_recordVersion, x_recordValue, x_originProjection, x_originPosition, x_originInstruction, x_joined, x_removed, x_eventCount, x_cutLevel, x_draftType, x_draftValue, x_ops, x_arguments, x_programLength, x_states, x_noted, x_stack, x_metHeight, x_groupType, x_cursor, x_keptCursor, x_parked, x_rowCount, x_rowPosition, x_rowTimes, x_rowDue⟩ := s
    obtain ⟨y_count, y_flushed, y_calls, y_drafted, y_top, y_time, y_isCut, y_removed, y_stream, y_type, y_from, y_by, y_value, y_version, y_on, y_call, y_draftType, y_draftValue, y_op, y_with, y_length, y_height, y_torn, y_stack, y_position, y_cells, y_noted, y_wanted, y_formed, y_cursor, y_parked, y_where, y_often, y_due, y_many, y_found⟩ := v
    obtain ⟨hQ, hz, hgr, hT, hW, hM⟩ := H
    have hn6 := hgr.1.2.2.1
    have hit : i < nw := by omega
    obtain ⟨⟨a, ha, ea⟩, hwh, hof⟩ := hgr.2.2.2.2.2.1 i hit
    have e6 : 6 * (3 * g + 1) + i = 18 * g + 6 + i := by omega
    obtain ⟨s', v', hK, hX, hY⟩ := em_kins (na' := nt) (nb' := i + 1) (r := 3 * g + 1) (i := i) (x := x_rowPosition (18 * g + 6 + i)) (tm := x_rowTimes (18 * g + 6 + i)) ⟨hQ, hz, hgr, hT, hW, hM⟩ hg (by omega) (by omega) (by omega) (by omega) (by omega) (by omega) ha ea
      (fun j hj e => by
        rw [← hT j (by omega)] at e
        exact hgr.2.2.2.2.2.2.2.2.2.1 j i hj hit e)
      (fun j hj e => by
        rw [← hW j (by omega)] at e
        have := hgr.2.2.2.2.2.2.2.2.1 j i (by omega) hit e
        omega) (Or.inr ⟨i, by omega, hW i hit⟩) (by rw [e6])
    obtain ⟨s2, v2, hK2, hX2, hY2⟩ := ih (i + 1) (by omega) s' v' hK
    refine ⟨s2, v2, hK2, fun post hp => ⟨vp_in_nI (by omega) (by decide), br_f ?_ ?_⟩, fun post hp => ⟨by rw [es_2g]; exact vp_in_nI (by omega) (by decide), br_f ?_ ?_⟩⟩
    · rw [nI_clamp (by omega), hgr.2.2.1.2.2.1]; exact nI_ge hit (by omega)
    · have c1 : (nI (3 * g + 1) * 6 + nI i).toNatClampNeg = 18 * g + 6 + i := by rw [es_6, nI_add, nI_clamp (by omega), e6]
      have v1 : vp_in (nI (3 * g + 1) * 6 + nI i) 36 := by rw [es_6, nI_add]; exact vp_in_nI (by omega) (by decide)
      rw [c1]
      exact ⟨v1, nm_e (hX post (fun x5 s => match s with | (x_records, x_removedCount, x_flushed, x_drafted, x_height, x_time, x_foundAt, x_recordStream, x_recordType, x_recordVersion, x_recordValue, x_originProjection, x_originPosition, x_originInstruction, x_joined, x_removed, x_eventCount, x_cutLevel, x_draftType, x_draftValue, x_ops, x_arguments, x_programLength, x_states, x_noted, x_stack, x_metHeight, x_groupType, x_cursor, x_keptCursor, x_parked, x_rowCount, x_rowPosition, x_rowTimes, x_rowDue) => wX_keepRow_16 post (nI (3 * g + 1)) (nI (3 * g + 2)) (r + 1) x5 x_records x_removedCount x_flushed x_drafted x_height x_time x_foundAt x_recordStream x_recordType x_recordVersion x_recordValue x_originProjection x_originPosition x_originInstruction x_joined x_removed x_eventCount x_cutLevel x_draftType x_draftValue x_ops x_arguments x_programLength x_states x_noted x_stack x_metHeight x_groupType x_cursor x_keptCursor x_parked x_rowCount x_rowPosition x_rowTimes x_rowDue) (hX2 post hp))⟩
    · rw [es_2g, nI_clamp (by omega), hgr.2.2.1.2.2.2.1]; exact nI_ge hit (by omega)
    · have e16 : 16 + 8 * nI g + nI i = nI (16 + 8 * g + i) := by rw [es_8, show (16 : Int32) = nI 16 from rfl, nI_add, nI_add]
      have c1 : (16 + 8 * nI g + nI i).toNatClampNeg = 16 + 8 * g + i := by rw [e16, nI_clamp (by omega)]
      have v1 : vp_in (16 + 8 * nI g + nI i) 64 := by rw [e16]; exact vp_in_nI (by omega) (by decide)
      refine ⟨v1, v1, ?_⟩
      rw [c1, hwh, hof, es_4g]
      have h2 := hY2 post hp
      refine hY _ ?_
      obtain ⟨y_count, y_flushed, y_calls, y_drafted, y_top, y_time, y_isCut, y_removed, y_stream, y_type, y_from, y_by, y_value, y_version, y_on, y_call, y_draftType, y_draftValue, y_op, y_with, y_length, y_height, y_torn, y_stack, y_position, y_cells, y_noted, y_wanted, y_formed, y_cursor, y_parked, y_where, y_often, y_due, y_many, y_found⟩ := v'
      exact nm_r (nI_1 _) h2
theorem em_keep (H : es_Q c c d L q (x_records, x_removedCount, x_flushed, x_drafted, x_height, x_time, x_foundAt, x_recordStream, x_recordType, x_recordVersion, x_recordValue, x_originProjection, x_originPosition, x_originInstruction, x_joined, x_removed, x_eventCount, x_cutLevel, x_draftType, x_draftValue, x_ops, x_arguments, x_programLength, x_states, x_noted, x_stack, x_metHeight, x_groupType, x_cursor, x_keptCursor, x_parked, x_rowCount, x_rowPosition, x_rowTimes, x_rowDue) (y_count, y_flushed, y_calls, y_drafted, y_top, y_time, y_isCut, y_removed, y_stream, y_type, y_from, y_by, y_value, y_version, y_on, y_call, y_draftType, y_draftValue, y_op, y_with, y_length, y_height, y_torn, y_stack, y_position, y_cells, y_noted, y_wanted, y_formed, y_cursor, y_parked, y_where, y_often, y_due, y_many, y_found)) (hg : g < 2) : ∃ (s' : SX) (v' : SY), es_Q c c d L q s' v' ∧ (∀ post : SX → Prop, post s' → wpX_keepGroup post (x_records, x_removedCount, x_flushed, x_drafted, x_height, x_time, x_foundAt, x_recordStream, x_recordType, x_recordVersion, x_recordValue, x_originProjection, x_originPosition, x_originInstruction, x_joined, x_removed, x_eventCount, x_cutLevel, x_draftType, x_draftValue, x_ops, x_arguments, x_programLength, x_states, x_noted, x_stack, x_metHeight, x_groupType, x_cursor, x_keptCursor, x_parked, x_rowCount, x_rowPosition, x_rowTimes, x_rowDue) (nI g)) ∧ (∀ post : SY → Prop, post v' → wpY_keep post (y_count, y_flushed, y_calls, y_drafted, y_top, y_time, y_isCut, y_removed, y_stream, y_type, y_from, y_by, y_value, y_version, y_on, y_call, y_draftType, y_draftValue, y_op, y_with, y_length, y_height, y_torn, y_stack, y_position, y_cells, y_noted, y_wanted, y_formed, y_cursor, y_parked, y_where, y_often, y_due, y_many, y_found) (nI g)) := by
  obtain ⟨hL, hD, hP, hS, hG, hF⟩ := H
  obtain ⟨hfm, nt, nw, nk, u, l, hz, hgr⟩ := hG.2.2 g hg
  have hgr0 : es_Grp c c g nt nw 0 u u x_cursor (upd x_keptCursor g (nI u)) (upd x_rowCount (3 * g + 2) 0) x_rowPosition x_rowTimes x_rowDue (upd y_cursor (2 + g) (nI u)) (upd y_many (4 + g) 0) y_where y_often y_due := by
    obtain ⟨a0, a1, a2, a3, a4, a5, a6, a7, a8, a9, a10⟩ := hgr
    refine ⟨⟨a0.1, a0.1, a0.2.2.1, by omega⟩, ⟨a1.1, ?_, pk_us, pk_us⟩, ⟨?_, ?_, ?_, ?_, pk_us, pk_us⟩, a3, a4, a5, fun i hi => absurd hi (Nat.not_lt_zero _), a7, a8, a9, fun i j _ hj => absurd hj (Nat.not_lt_zero _)⟩
    · rw [pk_un (by omega)]; exact a1.2.1
    · rw [pk_un (by omega)]; exact a2.1
    · rw [pk_un (by omega)]; exact a2.2.1
    · rw [pk_un (by omega)]; exact a2.2.2.1
    · rw [pk_un (by omega)]; exact a2.2.2.2.1
  have hpk := hG.1
  subst hpk
  have hG' := es_RG_set (pk' := y_parked) hG hg hz hgr0 (fun e he => ⟨rfl, rfl, rfl⟩) (fun e he => pk_un (by omega)) (fun e _ _ h => pk_un h) (fun e _ _ _ => ⟨rfl, rfl, rfl⟩) (fun e h => ⟨rfl, pk_un h⟩) (fun e _ h => pk_un h)
  obtain ⟨s1, v1, hK1, hX1, hY1⟩ := em_kT (T := fun i => x_rowPosition (18 * g + i)) (W := fun i => x_rowPosition (18 * g + 6 + i)) hg nt 0 (by omega) (x_records, x_removedCount, x_flushed, x_drafted, x_height, x_time, x_foundAt, x_recordStream, x_recordType, x_recordVersion, x_recordValue, x_originProjection, x_originPosition, x_originInstruction, x_joined, x_removed, x_eventCount, x_cutLevel, x_draftType, x_draftValue, x_ops, x_arguments, x_programLength, x_states, x_noted, x_stack, x_metHeight, x_groupType, x_cursor, upd x_keptCursor g (nI u), y_parked, upd x_rowCount (3 * g + 2) 0, x_rowPosition, x_rowTimes, x_rowDue) (y_count, y_flushed, y_calls, y_drafted, y_top, y_time, y_isCut, y_removed, y_stream, y_type, y_from, y_by, y_value, y_version, y_on, y_call, y_draftType, y_draftValue, y_op, y_with, y_length, y_height, y_torn, y_stack, y_position, y_cells, y_noted, y_wanted, y_formed, upd y_cursor (2 + g) (nI u), y_parked, y_where, y_often, y_due, upd y_many (4 + g) 0, y_found) ⟨⟨hL, hD, hP, hS, hG', hF⟩, hz, hgr0, fun i hi => rfl, fun i hi => rfl, fun j hj => absurd hj (Nat.not_lt_zero _)⟩
  obtain ⟨s2, v2, hK2, hX2, hY2⟩ := em_kW hg nw 0 (by omega) s1 v1 hK1
  refine ⟨s2, v2, hK2.1, fun post hp => ?_, fun post hp => ?_⟩
  · have c32 : (nI g * 3 + 2).toNatClampNeg = 3 * g + 2 := by rw [es_g32, nI_clamp (by omega)]
    refine ⟨vp_in_nI hg (by decide), vp_in_nI hg (by decide), nm_r (e' := upd x_keptCursor g (nI u)) (by rw [nI_clamp (by omega), hgr.2.1.1]) ⟨by rw [es_g32]; exact vp_in_nI (by omega) (by decide), nm_r (e' := upd x_rowCount (3 * g + 2) 0) (by rw [c32]) ?_⟩⟩
    refine nm_r (es_g3 g) (nm_r (es_g32 g) ⟨_, hX1 _ ?_⟩)
    have h2 := hX2 post
    obtain ⟨x_records, x_removedCount, x_flushed, x_drafted, x_height, x_time, x_foundAt, x_recordStream, x_recordType, x_recordVersion, x_recordValue, x_originProjection, x_originPosition, x_originInstruction, x_joined, x_removed, x_eventCount, x_cutLevel, x_draftType, x_draftValue, x_ops, x_arguments, x_programLength, x_states, x_noted, x_stack, x_metHeight, x_groupType, x_cursor, x_keptCursor, x_parked, x_rowCount, x_rowPosition, x_rowTimes, x_rowDue⟩ := s1
    refine nm_r (es_g31 g) (nm_r (es_g32 g) ⟨_, h2 ?_⟩)
    obtain ⟨x_records, x_removedCount, x_flushed, x_drafted, x_height, x_time, x_foundAt, x_recordStream, x_recordType, x_recordVersion, x_recordValue, x_originProjection, x_originPosition, x_originInstruction, x_joined, x_removed, x_eventCount, x_cutLevel, x_draftType, x_draftValue, x_ops, x_arguments, x_programLength, x_states, x_noted, x_stack, x_metHeight, x_groupType, x_cursor, x_keptCursor, x_parked, x_rowCount, x_rowPosition, x_rowTimes, x_rowDue⟩ := s2
    exact hp
  · have c2 : (2 + nI g).toNatClampNeg = 2 + g := by rw [es_2g, nI_clamp (by omega)]
    have c4 : (4 + nI g).toNatClampNeg = 4 + g := by rw [es_4g, nI_clamp (by omega)]
    refine ⟨vp_in_nI (by omega) (by decide), by rw [es_2g]; exact vp_in_nI (by omega) (by decide), nm_r (e' := upd y_cursor (2 + g) (nI u)) (by rw [nI_clamp (by omega), c2, hgr.2.1.2.1]) ⟨by rw [es_4g]; exact vp_in_nI (by omega) (by decide), nm_r (e' := upd y_many (4 + g) 0) (by rw [c4, es_nb_0]) ⟨_, hY1 post ?_⟩⟩⟩
    have h2 := hY2 post hp
    obtain ⟨y_count, y_flushed, y_calls, y_drafted, y_top, y_time, y_isCut, y_removed, y_stream, y_type, y_from, y_by, y_value, y_version, y_on, y_call, y_draftType, y_draftValue, y_op, y_with, y_length, y_height, y_torn, y_stack, y_position, y_cells, y_noted, y_wanted, y_formed, y_cursor, y_parked, y_where, y_often, y_due, y_many, y_found⟩ := v1
    exact ⟨_, h2⟩
end
