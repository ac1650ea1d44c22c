section
variable {x_records x_removedCount x_flushed x_drafted x_height x_time x_foundAt : Int32} {x_recordStream x_recordType x_recordVersion x_recordValue x_originProjection x_originPosition x_originInstruction x_joined x_removed x_eventCount x_cutLevel x_draftType x_draftValue x_ops x_arguments x_programLength x_states x_noted x_stack x_metHeight x_groupType x_cursor x_keptCursor x_parked x_rowCount x_rowPosition x_rowTimes x_rowDue : Nat → Int32} {y_count y_flushed y_calls y_drafted y_top y_time : Int32} {y_isCut y_removed y_stream y_type y_from y_by y_value y_version y_on y_call y_draftType y_draftValue y_op y_with y_length y_height y_torn y_stack y_position y_cells y_noted y_wanted y_formed y_cursor y_parked y_where y_often y_due y_many y_found : Nat → Int32} {c f q : Nat} {cut rm str ty fr byi val ver onn call oi jn ec cl : Nat → Int32} {d : Nat} {L : Nat → Nat} {p a s n i o D h : Nat} {old : Nat → Int32} {Pg : (Nat → Int32) → (Nat → Int32) → Prop} {cc : Int32}
theorem em_dup (H : es_Rn f d L p a s old Pg D h c q (x_records, x_removedCount, x_flushed, x_drafted, nI h, x_time, x_foundAt, x_recordStream, x_recordType, x_recordVersion, x_recordValue, x_originProjection, x_originPosition, x_originInstruction, x_joined, x_removed, x_eventCount, x_cutLevel, x_draftType, x_draftValue, x_ops, x_arguments, x_programLength, x_states, x_noted, x_stack, x_metHeight, x_groupType, x_cursor, x_keptCursor, x_parked, x_rowCount, x_rowPosition, x_rowTimes, x_rowDue) (y_count, y_flushed, y_calls, y_drafted, nI h, y_time, y_isCut, y_removed, y_stream, y_type, y_from, y_by, y_value, y_version, y_on, y_call, y_draftType, y_draftValue, y_op, y_with, y_length, y_height, y_torn, y_stack, y_position, y_cells, y_noted, y_wanted, y_formed, y_cursor, y_parked, y_where, y_often, y_due, y_many, y_found)) (hp3 : p < 3) (hi : i < L p) (h0 : 0 < h) (hh : h < 4) (ho : y_op (14 * p + i) = nI o) (hcc : y_with (14 * p + i) = cc) (ho8 : o = 8) :
    es_Sp f d L p a s old Pg D (h + 1) c q (L p) i o cc (x_records, x_removedCount, x_flushed, x_drafted, nI h, x_time, x_foundAt, x_recordStream, x_recordType, x_recordVersion, x_recordValue, x_originProjection, x_originPosition, x_originInstruction, x_joined, x_removed, x_eventCount, x_cutLevel, x_draftType, x_draftValue, x_ops, x_arguments, x_programLength, x_states, x_noted, x_stack, x_metHeight, x_groupType, x_cursor, x_keptCursor, x_parked, x_rowCount, x_rowPosition, x_rowTimes, x_rowDue) (y_count, y_flushed, y_calls, y_drafted, nI h, y_time, y_isCut, y_removed, y_stream, y_type, y_from, y_by, y_value, y_version, y_on, y_call, y_draftType, y_draftValue, y_op, y_with, y_length, y_height, y_torn, y_stack, y_position, y_cells, y_noted, y_wanted, y_formed, y_cursor, y_parked, y_where, y_often, y_due, y_many, y_found) := by
  obtain ⟨⟨hLg, hD, hP, hS, hG, hF⟩, hq, _, _, hst, hsv, hot, hpo, hac, hcut, hstr, hpg⟩ := H
  have hl := hLg.2.2.2.2.2.2.2.2.2.2.2.2.2
  have hc2 : c ≤ 2000 := hl.1.1
  have hlen := hP.2.1 p
  have hoa := hP.2.2.1 p i (by omega) hi
  have hxl : x_programLength p = nI (L p) := by rw [← hP.1]; exact hlen.1
  have va : vp_in (nI a) 2000 := vp_in_nI (by omega) (by decide)
  have vh : vp_in (nI h) 8 := vp_in_nI (by omega) (by decide)
  have chh : (nI h).toNatClampNeg = h := nI_clamp (by omega)
  have em : nI h - 1 = nI (h - 1) := es_s1 h0
  have vm : vp_in (nI h - 1) 8 := by rw [em]; exact vp_in_nI (by omega) (by decide)
  have cm : (nI h - 1).toNatClampNeg = h - 1 := by rw [em, nI_clamp (by omega)]
  have ev : y_stack (h - 1) = x_stack (h - 1) := (hst (h - 1) (by omega)).symm
  subst ho8
  refine ⟨i + 1, (x_records, x_removedCount, x_flushed, x_drafted, nI (h + 1), x_time, x_foundAt, x_recordStream, x_recordType, x_recordVersion, x_recordValue, x_originProjection, x_originPosition, x_originInstruction, x_joined, x_removed, x_eventCount, x_cutLevel, x_draftType, x_draftValue, x_ops, x_arguments, x_programLength, x_states, x_noted, upd (upd x_stack (h - 1) (x_stack (h - 1))) h (x_stack (h - 1)), x_metHeight, x_groupType, x_cursor, x_keptCursor, x_parked, x_rowCount, x_rowPosition, x_rowTimes, x_rowDue), (y_count, y_flushed, y_calls, y_drafted, nI (h + 1), y_time, y_isCut, y_removed, y_stream, y_type, y_from, y_by, y_value, y_version, y_on, y_call, y_draftType, y_draftValue, y_op, y_with, y_length, y_height, y_torn, upd y_stack h (x_stack (h - 1)), y_position, y_cells, y_noted, y_wanted, y_formed, y_cursor, y_parked, y_where, y_often, y_due, y_many, y_found), ⟨⟨hLg, hD, hP, hS, hG, hF⟩, hq, rfl, rfl, fun j hj => ?_, hsv, hot, hpo, hac, hcut, hstr, hpg⟩, Or.inl ⟨rfl, by omega⟩, fun post n5 x5 h5 hr => ?_, fun post n5 hr => ?_⟩
  · rw [es_upd0 (f := x_stack) rfl]
    by_cases e : j = h
    · rw [e, pk_us, pk_us]
    · rw [pk_un e, pk_un e]; exact hst j (by omega)
  · refine ex_preC hp3 hlen.2 hxl hi h5 (hoa.1.trans ho) (hoa.2.trans hcc) (Or.inr (Or.inl rfl)) ?_
    refine br_f (by decide) (br_f (by decide) (br_f (by decide) (br_f (by decide) (br_f (by decide) (br_f (by decide) (br_f (by decide) (br_f (by decide) (br_f (by decide) (br_f (by decide) (br_t rfl ?_))))))))))
    refine ex_pop h0 (by omega) (ex_push (h := h - 1) (by omega) ?_)
    rw [show h - 1 + 1 = h by omega]
    exact ex_push hh (nm_r (nI_1 _) hr)
  · refine ey_pre hp3 hlen.2 hlen.1 hi (by omega) ho hcc (by omega) (by omega) ⟨va, nm_e ?_⟩
    refine br_f (by decide) (br_f (by decide) (br_f (by decide) (br_f (by decide) (br_f (by decide) (br_f (by decide) (br_f (by decide) (br_f (by decide) (br_f (by decide) (br_f (by decide) (br_t rfl ⟨vm, vh, nm_r (e' := upd y_stack h (x_stack (h - 1))) (by rw [chh, cm, ev]) (nm_r (nI_1 h) ?_)⟩))))))))))
    rw [nI_1 i]; exact hr
theorem em_bin (H : es_Rn f d L p a s old Pg D h c q (x_records, x_removedCount, x_flushed, x_drafted, nI h, x_time, x_foundAt, x_recordStream, x_recordType, x_recordVersion, x_recordValue, x_originProjection, x_originPosition, x_originInstruction, x_joined, x_removed, x_eventCount, x_cutLevel, x_draftType, x_draftValue, x_ops, x_arguments, x_programLength, x_states, x_noted, x_stack, x_metHeight, x_groupType, x_cursor, x_keptCursor, x_parked, x_rowCount, x_rowPosition, x_rowTimes, x_rowDue) (y_count, y_flushed, y_calls, y_drafted, nI h, y_time, y_isCut, y_removed, y_stream, y_type, y_from, y_by, y_value, y_version, y_on, y_call, y_draftType, y_draftValue, y_op, y_with, y_length, y_height, y_torn, y_stack, y_position, y_cells, y_noted, y_wanted, y_formed, y_cursor, y_parked, y_where, y_often, y_due, y_many, y_found)) (hp3 : p < 3) (hi : i < L p) (h2 : 2 ≤ h) (hh : h ≤ 4) (ho : y_op (14 * p + i) = nI o) (hcc : y_with (14 * p + i) = cc) (ho4 : 4 ≤ o) (ho8 : o < 8) :
    es_Sp f d L p a s old Pg D (h - 1) c q (L p) i o cc (x_records, x_removedCount, x_flushed, x_drafted, nI h, x_time, x_foundAt, x_recordStream, x_recordType, x_recordVersion, x_recordValue, x_originProjection, x_originPosition, x_originInstruction, x_joined, x_removed, x_eventCount, x_cutLevel, x_draftType, x_draftValue, x_ops, x_arguments, x_programLength, x_states, x_noted, x_stack, x_metHeight, x_groupType, x_cursor, x_keptCursor, x_parked, x_rowCount, x_rowPosition, x_rowTimes, x_rowDue) (y_count, y_flushed, y_calls, y_drafted, nI h, y_time, y_isCut, y_removed, y_stream, y_type, y_from, y_by, y_value, y_version, y_on, y_call, y_draftType, y_draftValue, y_op, y_with, y_length, y_height, y_torn, y_stack, y_position, y_cells, y_noted, y_wanted, y_formed, y_cursor, y_parked, y_where, y_often, y_due, y_many, y_found) := by
  obtain ⟨⟨hLg, hD, hP, hS, hG, hF⟩, hq, _, _, hst, hsv, hot, hpo, hac, hcut, hstr, hpg⟩ := H
  have hl := hLg.2.2.2.2.2.2.2.2.2.2.2.2.2
  have hc2 : c ≤ 2000 := hl.1.1
  have hlen := hP.2.1 p
  have hoa := hP.2.2.1 p i (by omega) hi
  have hxl : x_programLength p = nI (L p) := by rw [← hP.1]; exact hlen.1
  have va : vp_in (nI a) 2000 := vp_in_nI (by omega) (by decide)
  have em : nI h - 1 = nI (h - 1) := es_s1 (by omega)
  have vm : vp_in (nI h - 1) 8 := by rw [em]; exact vp_in_nI (by omega) (by decide)
  have cm : (nI h - 1).toNatClampNeg = h - 1 := by rw [em, nI_clamp (by omega)]
  have em2 : nI (h - 1) - 1 = nI (h - 2) := es_s1 (n := h - 1) (by omega)
  have vm2 : vp_in (nI (h - 1) - 1) 8 := by rw [em2]; exact vp_in_nI (by omega) (by decide)
  have cm2 : (nI (h - 1) - 1).toNatClampNeg = h - 2 := by rw [em2, nI_clamp (by omega)]
  have ev : y_stack (h - 1) = x_stack (h - 1) := (hst (h - 1) (by omega)).symm
  have ev2 : y_stack (h - 2) = x_stack (h - 2) := (hst (h - 2) (by omega)).symm
  have go : ∀ v : Int32, (∀ pst : SX → Prop, pst (x_records, x_removedCount, x_flushed, x_drafted, nI (h - 1), x_time, x_foundAt, x_recordStream, x_recordType, x_recordVersion, x_recordValue, x_originProjection, x_originPosition, x_originInstruction, x_joined, x_removed, x_eventCount, x_cutLevel, x_draftType, x_draftValue, x_ops, x_arguments, x_programLength, x_states, x_noted, upd x_stack (h - 2) v, x_metHeight, x_groupType, x_cursor, x_keptCursor, x_parked, x_rowCount, x_rowPosition, x_rowTimes, x_rowDue) → wpX_combine pst (x_records, x_removedCount, x_flushed, x_drafted, nI h, x_time, x_foundAt, x_recordStream, x_recordType, x_recordVersion, x_recordValue, x_originProjection, x_originPosition, x_originInstruction, x_joined, x_removed, x_eventCount, x_cutLevel, x_draftType, x_draftValue, x_ops, x_arguments, x_programLength, x_states, x_noted, x_stack, x_metHeight, x_groupType, x_cursor, x_keptCursor, x_parked, x_rowCount, x_rowPosition, x_rowTimes, x_rowDue) (nI o)) → (∀ pst : Int32 → SY → Prop, pst (nI (i + 1)) (y_count, y_flushed, y_calls, y_drafted, nI (h - 1), y_time, y_isCut, y_removed, y_stream, y_type, y_from, y_by, y_value, y_version, y_on, y_call, y_draftType, y_draftValue, y_op, y_with, y_length, y_height, y_torn, upd y_stack (h - 2) v, y_position, y_cells, y_noted, y_wanted, y_formed, y_cursor, y_parked, y_where, y_often, y_due, y_many, y_found) → wpY_step pst (y_count, y_flushed, y_calls, y_drafted, nI h, y_time, y_isCut, y_removed, y_stream, y_type, y_from, y_by, y_value, y_version, y_on, y_call, y_draftType, y_draftValue, y_op, y_with, y_length, y_height, y_torn, y_stack, y_position, y_cells, y_noted, y_wanted, y_formed, y_cursor, y_parked, y_where, y_often, y_due, y_many, y_found) (nI p) (nI a) (nI o) cc (nI i)) →
      es_Sp f d L p a s old Pg D (h - 1) c q (L p) i o cc (x_records, x_removedCount, x_flushed, x_drafted, nI h, x_time, x_foundAt, x_recordStream, x_recordType, x_recordVersion, x_recordValue, x_originProjection, x_originPosition, x_originInstruction, x_joined, x_removed, x_eventCount, x_cutLevel, x_draftType, x_draftValue, x_ops, x_arguments, x_programLength, x_states, x_noted, x_stack, x_metHeight, x_groupType, x_cursor, x_keptCursor, x_parked, x_rowCount, x_rowPosition, x_rowTimes, x_rowDue) (y_count, y_flushed, y_calls, y_drafted, nI h, y_time, y_isCut, y_removed, y_stream, y_type, y_from, y_by, y_value, y_version, y_on, y_call, y_draftType, y_draftValue, y_op, y_with, y_length, y_height, y_torn, y_stack, y_position, y_cells, y_noted, y_wanted, y_formed, y_cursor, y_parked, y_where, y_often, y_due, y_many, y_found) := by
    intro v hX hY
    refine ⟨i + 1, (x_records, x_removedCount, x_flushed, x_drafted, nI (h - 1), x_time, x_foundAt, x_recordStream, x_recordType, x_recordVersion, x_recordValue, x_originProjection, x_originPosition, x_originInstruction, x_joined, x_removed, x_eventCount, x_cutLevel, x_draftType, x_draftValue, x_ops, x_arguments, x_programLength, x_states, x_noted, upd x_stack (h - 2) v, x_metHeight, x_groupType, x_cursor, x_keptCursor, x_parked, x_rowCount, x_rowPosition, x_rowTimes, x_rowDue), (y_count, y_flushed, y_calls, y_drafted, nI (h - 1), y_time, y_isCut, y_removed, y_stream, y_type, y_from, y_by, y_value, y_version, y_on, y_call, y_draftType, y_draftValue, y_op, y_with, y_length, y_height, y_torn, upd y_stack (h - 2) v, y_position, y_cells, y_noted, y_wanted, y_formed, y_cursor, y_parked, y_where, y_often, y_due, y_many, y_found), ⟨⟨hLg, hD, hP, hS, hG, hF⟩, hq, rfl, rfl, fun j hj => ?_, hsv, hot, hpo, hac, hcut, hstr, hpg⟩, Or.inl ⟨rfl, by omega⟩, fun post n5 x5 h5 hr => ?_, fun post n5 hr => ?_⟩
    · by_cases e : j = h - 2
      · rw [e, pk_us, pk_us]
      · rw [pk_un e, pk_un e]; exact hst j (by omega)
    · exact ex_preB hp3 hlen.2 hxl hi h5 (hoa.1.trans ho) (hoa.2.trans hcc) ⟨ho4, ho8⟩ (hX _ (nm_r (nI_1 _) hr))
    · exact ey_pre hp3 hlen.2 hlen.1 hi (by omega) ho hcc (by omega) (by omega) (hY _ hr)
  have pu : ∀ (pst : SX → Prop) (v : Int32), pst (x_records, x_removedCount, x_flushed, x_drafted, nI (h - 1), x_time, x_foundAt, x_recordStream, x_recordType, x_recordVersion, x_recordValue, x_originProjection, x_originPosition, x_originInstruction, x_joined, x_removed, x_eventCount, x_cutLevel, x_draftType, x_draftValue, x_ops, x_arguments, x_programLength, x_states, x_noted, upd x_stack (h - 2) v, x_metHeight, x_groupType, x_cursor, x_keptCursor, x_parked, x_rowCount, x_rowPosition, x_rowTimes, x_rowDue) → wpX_push pst (x_records, x_removedCount, x_flushed, x_drafted, nI (h - 2), x_time, x_foundAt, x_recordStream, x_recordType, x_recordVersion, x_recordValue, x_originProjection, x_originPosition, x_originInstruction, x_joined, x_removed, x_eventCount, x_cutLevel, x_draftType, x_draftValue, x_ops, x_arguments, x_programLength, x_states, x_noted, x_stack, x_metHeight, x_groupType, x_cursor, x_keptCursor, x_parked, x_rowCount, x_rowPosition, x_rowTimes, x_rowDue) v := by
    intro pst v hp
    refine ex_push (h := h - 2) (by omega) ?_
    rw [show h - 2 + 1 = h - 1 by omega]
    exact hp
  have st268 : ∀ (pst : Int32 → SY → Prop) (v : Int32), pst (nI (i + 1)) (y_count, y_flushed, y_calls, y_drafted, nI (h - 1), y_time, y_isCut, y_removed, y_stream, y_type, y_from, y_by, y_value, y_version, y_on, y_call, y_draftType, y_draftValue, y_op, y_with, y_length, y_height, y_torn, upd y_stack (h - 2) v, y_position, y_cells, y_noted, y_wanted, y_formed, y_cursor, y_parked, y_where, y_often, y_due, y_many, y_found) → ((nI o = 4 ∧ v = x_stack (h - 2) + x_stack (h - 1)) ∨ (nI o = 5 ∧ v = x_stack (h - 2) - x_stack (h - 1)) ∨ (nI o = 6 ∧ v = x_stack (h - 2) * x_stack (h - 1)) ∨ (nI o = 7 ∧ x_stack (h - 1) ≤ x_stack (h - 2) ∧ v = 0) ∨ (nI o = 7 ∧ ¬ x_stack (h - 1) ≤ x_stack (h - 2) ∧ v = 1)) → wY_step_268 pst (nI o) (nI i) y_count y_flushed y_calls y_drafted (nI h) y_time y_isCut y_removed y_stream y_type y_from y_by y_value y_version y_on y_call y_draftType y_draftValue y_op y_with y_length y_height y_torn y_stack y_position y_cells y_noted y_wanted y_formed y_cursor y_parked y_where y_often y_due y_many y_found := by
    intro pst v hp hv
    refine nm_r em ⟨vm, nm_r (e' := x_stack (h - 1)) (by rw [cm, ev]) ⟨vm2, nm_r (e' := x_stack (h - 2)) (by rw [cm2, ev2]) ?_⟩⟩
    rw [cm2, nI_1 i]
    rcases hv with ⟨e, e2⟩ | ⟨e, e2⟩ | ⟨e, e2⟩ | ⟨e, w, e2⟩ | ⟨e, w, e2⟩
    · subst e2; rw [e]; exact br_t rfl ⟨vm2, nm_e hp⟩
    · subst e2; rw [e]; exact br_f (by decide) (br_t rfl ⟨vm2, nm_e hp⟩)
    · subst e2; rw [e]; exact br_f (by decide) (br_f (by decide) (br_t rfl ⟨vm2, nm_e hp⟩))
    · subst e2; rw [e]; exact br_f (by decide) (br_f (by decide) (br_f (by decide) (br_t w ⟨vm2, nm_e hp⟩)))
    · subst e2; rw [e]; exact br_f (by decide) (br_f (by decide) (br_f (by decide) (br_f w ⟨vm2, nm_e hp⟩)))
  have hcases : o = 4 ∨ o = 5 ∨ o = 6 ∨ o = 7 := by omega
  rcases hcases with e | e | e | e <;> subst e
  · refine go (x_stack (h - 2) + x_stack (h - 1)) (fun pst hr => ?_) (fun pst hr => ⟨va, nm_e (br_f (by decide) (br_f (by decide) (br_f (by decide) (br_f (by decide) (br_f (by decide) (br_f (by decide) (br_t rfl (st268 pst _ hr (Or.inl ⟨rfl, rfl⟩)))))))))⟩)
    unfold wpX_combine
    refine ex_pop (by omega) hh ?_
    refine ex_pop (h := h - 1) (by omega) (by omega) ?_
    rw [show h - 1 - 1 = h - 2 by omega]
    exact br_f (by decide) (br_f (by decide) (br_t rfl (pu _ _ hr)))
  · refine go (x_stack (h - 2) - x_stack (h - 1)) (fun pst hr => ?_) (fun pst hr => ⟨va, nm_e (br_f (by decide) (br_f (by decide) (br_f (by decide) (br_f (by decide) (br_f (by decide) (br_f (by decide) (br_f (by decide) (br_t rfl (st268 pst _ hr (Or.inr (Or.inl ⟨rfl, rfl⟩))))))))))) ⟩)
    unfold wpX_combine
    refine ex_pop (by omega) hh ?_
    refine ex_pop (h := h - 1) (by omega) (by omega) ?_
    rw [show h - 1 - 1 = h - 2 by omega]
    exact br_f (by decide) (br_f (by decide) (br_f (by decide) (br_t rfl (pu _ _ hr))))
  · refine go (x_stack (h - 2) * x_stack (h - 1)) (fun pst hr => ?_) (fun pst hr => ⟨va, nm_e (br_f (by decide) (br_f (by decide) (br_f (by decide) (br_f (by decide) (br_f (by decide) (br_f (by decide) (br_f (by decide) (br_f (by decide) (br_t rfl (st268 pst _ hr (Or.inr (Or.inr (Or.inl ⟨rfl, rfl⟩)))))))))))))⟩)
    unfold wpX_combine
    refine ex_pop (by omega) hh ?_
    refine ex_pop (h := h - 1) (by omega) (by omega) ?_
    rw [show h - 1 - 1 = h - 2 by omega]
    exact br_f (by decide) (br_f (by decide) (br_f (by decide) (br_f (by decide) (br_t rfl (pu _ _ hr)))))
  · by_cases w : x_stack (h - 1) ≤ x_stack (h - 2)
    · refine go 0 (fun pst hr => ?_) (fun pst hr => ⟨va, nm_e (br_f (by decide) (br_f (by decide) (br_f (by decide) (br_f (by decide) (br_f (by decide) (br_f (by decide) (br_f (by decide) (br_f (by decide) (br_f (by decide) (br_t rfl (st268 pst _ hr (Or.inr (Or.inr (Or.inr (Or.inl ⟨rfl, w, rfl⟩)))))))))))))))⟩)
      unfold wpX_combine
      refine ex_pop (by omega) hh ?_
      refine ex_pop (h := h - 1) (by omega) (by omega) ?_
      rw [show h - 1 - 1 = h - 2 by omega]
      exact br_f (by decide) (br_t (by decide) (br_t w (pu _ _ hr)))
    · refine go 1 (fun pst hr => ?_) (fun pst hr => ⟨va, nm_e (br_f (by decide) (br_f (by decide) (br_f (by decide) (br_f (by decide) (br_f (by decide) (br_f (by decide) (br_f (by decide) (br_f (by decide) (br_f (by decide) (br_t rfl (st268 pst _ hr (Or.inr (Or.inr (Or.inr (Or.inr ⟨rfl, w, rfl⟩)))))))))))))))⟩)
      unfold wpX_combine
      refine ex_pop (by omega) hh ?_
      refine ex_pop (h := h - 1) (by omega) (by omega) ?_
      rw [show h - 1 - 1 = h - 2 by omega]
      exact br_f (by decide) (br_t (by decide) (br_f w (pu _ _ hr)))
end
