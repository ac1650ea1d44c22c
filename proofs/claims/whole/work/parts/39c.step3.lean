section
variable {x_records x_removedCount x_flushed x_drafted x_height x_time x_foundAt : Int32} {x_recordStream x_recordType x_recordVersion x_recordValue x_originProjection x_originPosition x_originInstruction x_joined x_removed x_eventCount x_cutLevel x_draftType x_draftValue x_ops x_arguments x_programLength x_states x_noted x_stack x_metHeight x_groupType x_cursor x_keptCursor x_parked x_rowCount x_rowPosition x_rowTimes x_rowDue : Nat → Int32} {y_count y_flushed y_calls y_drafted y_top y_time : Int32} {y_isCut y_removed y_stream y_type y_from y_by y_value y_version y_on y_call y_draftType y_draftValue y_op y_with y_length y_height y_torn y_stack y_position y_cells y_noted y_wanted y_formed y_cursor y_parked y_where y_often y_due y_many y_found : Nat → Int32} {c f q : Nat} {cut rm str ty fr byi val ver onn call oi jn ec cl : Nat → Int32} {d : Nat} {L : Nat → Nat} {p a s n i o D h : Nat} {old : Nat → Int32} {Pg : (Nat → Int32) → (Nat → Int32) → Prop} {cc : Int32}
theorem em_set (H : es_Rn f d L p a s old Pg D h c q (x_records, x_removedCount, x_flushed, x_drafted, nI h, x_time, x_foundAt, x_recordStream, x_recordType, x_recordVersion, x_recordValue, x_originProjection, x_originPosition, x_originInstruction, x_joined, x_removed, x_eventCount, x_cutLevel, x_draftType, x_draftValue, x_ops, x_arguments, x_programLength, x_states, x_noted, x_stack, x_metHeight, x_groupType, x_cursor, x_keptCursor, x_parked, x_rowCount, x_rowPosition, x_rowTimes, x_rowDue) (y_count, y_flushed, y_calls, y_drafted, nI h, y_time, y_isCut, y_removed, y_stream, y_type, y_from, y_by, y_value, y_version, y_on, y_call, y_draftType, y_draftValue, y_op, y_with, y_length, y_height, y_torn, y_stack, y_position, y_cells, y_noted, y_wanted, y_formed, y_cursor, y_parked, y_where, y_often, y_due, y_many, y_found)) (hp3 : p < 3) (hs5 : s < 5) (hi : i < L p) (h0 : 0 < h) (hh : h ≤ 4) (ho : y_op (14 * p + i) = nI o) (hcc : y_with (14 * p + i) = cc) (ho9 : o = 9) (hfit : es_fit o cc i (L p)) :
    es_Sp f d L p a s old Pg D (h - 1) c q (L p) i o cc (x_records, x_removedCount, x_flushed, x_drafted, nI h, x_time, x_foundAt, x_recordStream, x_recordType, x_recordVersion, x_recordValue, x_originProjection, x_originPosition, x_originInstruction, x_joined, x_removed, x_eventCount, x_cutLevel, x_draftType, x_draftValue, x_ops, x_arguments, x_programLength, x_states, x_noted, x_stack, x_metHeight, x_groupType, x_cursor, x_keptCursor, x_parked, x_rowCount, x_rowPosition, x_rowTimes, x_rowDue) (y_count, y_flushed, y_calls, y_drafted, nI h, y_time, y_isCut, y_removed, y_stream, y_type, y_from, y_by, y_value, y_version, y_on, y_call, y_draftType, y_draftValue, y_op, y_with, y_length, y_height, y_torn, y_stack, y_position, y_cells, y_noted, y_wanted, y_formed, y_cursor, y_parked, y_where, y_often, y_due, y_many, y_found) := by
  obtain ⟨⟨hLg, hD, hP, hS, hG, hF⟩, hq, _, _, hst, hsv, hot, hpo, hac, hcut, hstr, hpg⟩ := H
  have hl := hLg.2.2.2.2.2.2.2.2.2.2.2.2.2
  have hc2 : c ≤ 2000 := hl.1.1
  have hlen := hP.2.1 p
  have hoa := hP.2.2.1 p i (by omega) hi
  have hxl : x_programLength p = nI (L p) := by rw [← hP.1]; exact hlen.1
  have ca : (nI a).toNatClampNeg = a := nI_clamp (by omega)
  have va : vp_in (nI a) 2000 := vp_in_nI (by omega) (by decide)
  have em : nI h - 1 = nI (h - 1) := es_s1 h0
  have vm : vp_in (nI h - 1) 8 := by rw [em]; exact vp_in_nI (by omega) (by decide)
  have cm : (nI h - 1).toNatClampNeg = h - 1 := by rw [em, nI_clamp (by omega)]
  have ev : y_stack (h - 1) = x_stack (h - 1) := (hst (h - 1) (by omega)).symm
  obtain ⟨t, ht, et⟩ := (es_fit_c (Or.inr ho9)).mp hfit
  have e1 : nI (11 * p + 2 * s) + cc = nI (11 * p + (2 * s + t)) := by rw [et, nI_add, Nat.add_assoc]
  have e2 : 10 * nI p + 2 * y_stream (nI a).toNatClampNeg + cc = nI (10 * p + (2 * s + t)) := by
    rw [ca, hstr, et, es_10, show (2 : Int32) = nI 2 from rfl, pk_mul, nI_add, nI_add]; congr 1; omega
  subst ho9
  refine ⟨i + 1, (x_records, x_removedCount, x_flushed, x_drafted, nI (h - 1), x_time, x_foundAt, x_recordStream, x_recordType, x_recordVersion, x_recordValue, x_originProjection, x_originPosition, x_originInstruction, x_joined, x_removed, x_eventCount, x_cutLevel, x_draftType, x_draftValue, x_ops, x_arguments, x_programLength, upd x_states (11 * p + (2 * s + t)) (x_stack (h - 1)), x_noted, x_stack, x_metHeight, x_groupType, x_cursor, x_keptCursor, x_parked, x_rowCount, x_rowPosition, x_rowTimes, x_rowDue), (y_count, y_flushed, y_calls, y_drafted, nI (h - 1), y_time, y_isCut, y_removed, y_stream, y_type, y_from, y_by, y_value, y_version, y_on, y_call, y_draftType, y_draftValue, y_op, y_with, y_length, y_height, y_torn, y_stack, y_position, upd y_cells (10 * p + (2 * s + t)) (x_stack (h - 1)), y_noted, y_wanted, y_formed, y_cursor, y_parked, y_where, y_often, y_due, y_many, y_found), ⟨⟨hLg, hD, hP, fun m hm hl => ?_, hG, hF⟩, hq, rfl, rfl, fun j hj => hst j (by omega), fun k hk => ?_, fun k hk k1 k2 => ?_, ?_, hac, hcut, hstr, hpg⟩, Or.inl ⟨rfl, by omega⟩, fun post n5 x5 h5 hr => ?_, fun post n5 hr => ?_⟩
  · obtain ⟨a1, a2, a3, a4⟩ := hS m hm hl
    refine ⟨?_, es_Eq_c a2 (fun k hk => pk_un (by omega)) rfl (fun k hk => pk_un (by omega)), a3, fun z => es_Eq_c (a4 z) (fun k hk => pk_un (by omega)) rfl (fun k hk => pk_un (by omega))⟩
    by_cases e : m = p
    · subst e
      obtain ⟨⟨b, hb, b1, b2⟩, b3⟩ := a1
      refine ⟨⟨b, hb, ?_, b2⟩, fun k hk => ?_⟩
      · rw [pk_un (by omega)]; exact b1
      · by_cases w : k = 2 * s + t
        · rw [w, pk_us, pk_us]
        · rw [pk_un (by omega), pk_un (by omega)]; exact b3 k hk
    · exact es_Eq_c a1 (fun k hk => pk_un (by omega)) rfl (fun k hk => pk_un (by omega))
  · rw [pk_un (by omega)]; exact hsv k hk
  · rw [pk_un (by omega)]; exact hot k hk k1 k2
  · rw [pk_un (by omega)]; exact hpo
  · refine ex_preC hp3 hlen.2 hxl hi h5 (hoa.1.trans ho) (hoa.2.trans hcc) (Or.inr (Or.inr rfl)) ?_
    refine br_f (by decide) (br_f (by decide) (br_f (by decide) (br_f (by decide) (br_f (by decide) (br_f (by decide) (br_f (by decide) (br_f (by decide) (br_f (by decide) (br_f (by decide) (br_f (by decide) (br_t rfl ?_)))))))))))
    refine ex_pop h0 hh ?_
    rw [e1, nI_clamp (by omega)]
    exact ⟨vp_in_nI (by omega) (by decide), nm_e (nm_r (nI_1 _) hr)⟩
  · refine ey_pre hp3 hlen.2 hlen.1 hi (by omega) ho hcc (by omega) (by omega) ⟨va, nm_r e2 ?_⟩
    refine br_f (by decide) (br_f (by decide) (br_f (by decide) (br_f (by decide) (br_f (by decide) (br_f (by decide) (br_f (by decide) (br_f (by decide) (br_f (by decide) (br_f (by decide) (br_f (by decide) (br_t rfl (nm_r em ⟨vm, vp_in_nI (by omega) (by decide), nm_r (e' := upd y_cells (10 * p + (2 * s + t)) (x_stack (h - 1))) (by rw [nI_clamp (by omega), cm, ev]) ?_⟩))))))))))))
    rw [nI_1 i]; exact hr
theorem ex_preJ {post : Int32 → SX → Prop} {n5 x5 : Nat} (hp3 : p < 3) (hn : n ≤ 14) (hpl : x_programLength p = nI n) (hi : i < n) (h5 : x5 < 14) (ho : x_ops (14 * p + i) = nI o) (hcc : x_arguments (14 * p + i) = cc)
    (h13 : o = 13 → wX_run_11 post (nI p) (nI a) (nI (11 * p + 2 * s)) n5 (nI n) (nI (x5 + 1)) x_records x_removedCount x_flushed x_drafted x_height x_time x_foundAt x_recordStream x_recordType x_recordVersion x_recordValue x_originProjection x_originPosition x_originInstruction x_joined x_removed x_eventCount x_cutLevel x_draftType x_draftValue x_ops x_arguments x_programLength x_states x_noted x_stack x_metHeight x_groupType x_cursor x_keptCursor x_parked x_rowCount x_rowPosition x_rowTimes x_rowDue)
    (h11 : o = 11 → wX_run_11 post (nI p) (nI a) (nI (11 * p + 2 * s)) n5 cc (nI (x5 + 1)) x_records x_removedCount x_flushed x_drafted x_height x_time x_foundAt x_recordStream x_recordType x_recordVersion x_recordValue x_originProjection x_originPosition x_originInstruction x_joined x_removed x_eventCount x_cutLevel x_draftType x_draftValue x_ops x_arguments x_programLength x_states x_noted x_stack x_metHeight x_groupType x_cursor x_keptCursor x_parked x_rowCount x_rowPosition x_rowTimes x_rowDue)
    (h10 : o = 10 → wpX_pop (fun r u => match u with | (x_records, x_removedCount, x_flushed, x_drafted, x_height, x_time, x_foundAt, x_recordStream, x_recordType, x_recordVersion, x_recordValue, x_originProjection, x_originPosition, x_originInstruction, x_joined, x_removed, x_eventCount, x_cutLevel, x_draftType, x_draftValue, x_ops, x_arguments, x_programLength, x_states, x_noted, x_stack, x_metHeight, x_groupType, x_cursor, x_keptCursor, x_parked, x_rowCount, x_rowPosition, x_rowTimes, x_rowDue) => (r = 0 → ∀ x5' : Int32, x5' = nI x5 + 1 → wX_run_11 post (nI p) (nI a) (nI (11 * p + 2 * s)) n5 cc x5' x_records x_removedCount x_flushed x_drafted x_height x_time x_foundAt x_recordStream x_recordType x_recordVersion x_recordValue x_originProjection x_originPosition x_originInstruction x_joined x_removed x_eventCount x_cutLevel x_draftType x_draftValue x_ops x_arguments x_programLength x_states x_noted x_stack x_metHeight x_groupType x_cursor x_keptCursor x_parked x_rowCount x_rowPosition x_rowTimes x_rowDue) ∧ (¬ r = 0 → ∀ x5' : Int32, x5' = nI x5 + 1 → wX_run_11 post (nI p) (nI a) (nI (11 * p + 2 * s)) n5 (nI (i + 1)) x5' x_records x_removedCount x_flushed x_drafted x_height x_time x_foundAt x_recordStream x_recordType x_recordVersion x_recordValue x_originProjection x_originPosition x_originInstruction x_joined x_removed x_eventCount x_cutLevel x_draftType x_draftValue x_ops x_arguments x_programLength x_states x_noted x_stack x_metHeight x_groupType x_cursor x_keptCursor x_parked x_rowCount x_rowPosition x_rowTimes x_rowDue)) (x_records, x_removedCount, x_flushed, x_drafted, x_height, x_time, x_foundAt, x_recordStream, x_recordType, x_recordVersion, x_recordValue, x_originProjection, x_originPosition, x_originInstruction, x_joined, x_removed, x_eventCount, x_cutLevel, x_draftType, x_draftValue, x_ops, x_arguments, x_programLength, x_states, x_noted, x_stack, x_metHeight, x_groupType, x_cursor, x_keptCursor, x_parked, x_rowCount, x_rowPosition, x_rowTimes, x_rowDue))
    (h12 : o = 12 → wpX_emit (fun r u => match u with | (x_records, x_removedCount, x_flushed, x_drafted, x_height, x_time, x_foundAt, x_recordStream, x_recordType, x_recordVersion, x_recordValue, x_originProjection, x_originPosition, x_originInstruction, x_joined, x_removed, x_eventCount, x_cutLevel, x_draftType, x_draftValue, x_ops, x_arguments, x_programLength, x_states, x_noted, x_stack, x_metHeight, x_groupType, x_cursor, x_keptCursor, x_parked, x_rowCount, x_rowPosition, x_rowTimes, x_rowDue) => (r = 0 → post 0 (x_records, x_removedCount, x_flushed, x_drafted, x_height, x_time, x_foundAt, x_recordStream, x_recordType, x_recordVersion, x_recordValue, x_originProjection, x_originPosition, x_originInstruction, x_joined, x_removed, x_eventCount, x_cutLevel, x_draftType, x_draftValue, x_ops, x_arguments, x_programLength, x_states, x_noted, x_stack, x_metHeight, x_groupType, x_cursor, x_keptCursor, x_parked, x_rowCount, x_rowPosition, x_rowTimes, x_rowDue)) ∧ (¬ r = 0 → ∀ x5' : Int32, x5' = nI x5 + 1 → wX_run_11 post (nI p) (nI a) (nI (11 * p + 2 * s)) n5 (nI (i + 1)) x5' x_records x_removedCount x_flushed x_drafted x_height x_time x_foundAt x_recordStream x_recordType x_recordVersion x_recordValue x_originProjection x_originPosition x_originInstruction x_joined x_removed x_eventCount x_cutLevel x_draftType x_draftValue x_ops x_arguments x_programLength x_states x_noted x_stack x_metHeight x_groupType x_cursor x_keptCursor x_parked x_rowCount x_rowPosition x_rowTimes x_rowDue)) (x_records, x_removedCount, x_flushed, x_drafted, x_height, x_time, x_foundAt, x_recordStream, x_recordType, x_recordVersion, x_recordValue, x_originProjection, x_originPosition, x_originInstruction, x_joined, x_removed, x_eventCount, x_cutLevel, x_draftType, x_draftValue, x_ops, x_arguments, x_programLength, x_states, x_noted, x_stack, x_metHeight, x_groupType, x_cursor, x_keptCursor, x_parked, x_rowCount, x_rowPosition, x_rowTimes, x_rowDue) (nI p) (nI a) (nI i) cc)
    (hc : 10 ≤ o) (hc2 : o < 14) :
    wX_run_11 post (nI p) (nI a) (nI (11 * p + 2 * s)) (n5 + 1) (nI i) (nI x5) x_records x_removedCount x_flushed x_drafted x_height x_time x_foundAt x_recordStream x_recordType x_recordVersion x_recordValue x_originProjection x_originPosition x_originInstruction x_joined x_removed x_eventCount x_cutLevel x_draftType x_draftValue x_ops x_arguments x_programLength x_states x_noted x_stack x_metHeight x_groupType x_cursor x_keptCursor x_parked x_rowCount x_rowPosition x_rowTimes x_rowDue := by
  have e14 : nI p * 14 + nI i = nI (14 * p + i) := by rw [es_14, nI_add]
  have v14 : vp_in (nI p * 14 + nI i) 56 := by rw [e14]; exact vp_in_nI (by omega) (by decide)
  have c14 : (nI p * 14 + nI i).toNatClampNeg = 14 * p + i := by rw [e14, nI_clamp (by omega)]
  have cp : (nI p).toNatClampNeg = p := nI_clamp (by omega)
  refine br_f (nI_ge (b := 14) h5 (by decide)) ⟨vp_in_nI (by omega) (by decide), br_f (by rw [cp, hpl]; exact nI_ge hi (by omega)) ⟨v14, nm_r (e' := nI o) (by rw [c14, ho]) ⟨v14, nm_r (e' := cc) (by rw [c14, hcc]) (nm_r (nI_1 i) ?_)⟩⟩⟩
  have hcases : o = 10 ∨ o = 11 ∨ o = 12 ∨ o = 13 := by omega
  rcases hcases with e | e | e | e <;> subst e
  · exact br_f (by decide) (br_f (by decide) (br_t rfl (h10 rfl)))
  · exact br_f (by decide) (br_t rfl (nm_r (nI_1 _) (h11 rfl)))
  · exact br_f (by decide) (br_f (by decide) (br_f (by decide) (br_t rfl (h12 rfl))))
  · exact br_t rfl ⟨vp_in_nI (by omega) (by decide), nm_r (e' := nI n) (by rw [cp, hpl]) (nm_r (nI_1 _) (h13 rfl))⟩
theorem em_zero (H : es_Rn f d L p a s old Pg D h c q (x_records, x_removedCount, x_flushed, x_drafted, nI h, x_time, x_foundAt, x_recordStream, x_recordType, x_recordVersion, x_recordValue, x_originProjection, x_originPosition, x_originInstruction, x_joined, x_removed, x_eventCount, x_cutLevel, x_draftType, x_draftValue, x_ops, x_arguments, x_programLength, x_states, x_noted, x_stack, x_metHeight, x_groupType, x_cursor, x_keptCursor, x_parked, x_rowCount, x_rowPosition, x_rowTimes, x_rowDue) (y_count, y_flushed, y_calls, y_drafted, nI h, y_time, y_isCut, y_removed, y_stream, y_type, y_from, y_by, y_value, y_version, y_on, y_call, y_draftType, y_draftValue, y_op, y_with, y_length, y_height, y_torn, y_stack, y_position, y_cells, y_noted, y_wanted, y_formed, y_cursor, y_parked, y_where, y_often, y_due, y_many, y_found)) (hp3 : p < 3) (hi : i < L p) (h0 : 0 < h) (hh : h ≤ 4) (ho : y_op (14 * p + i) = nI o) (hcc : y_with (14 * p + i) = cc) (ho10 : o = 10) (hfit : es_fit o cc i (L p)) :
    es_Sp f d L p a s old Pg D (h - 1) c q (L p) i o cc (x_records, x_removedCount, x_flushed, x_drafted, nI h, x_time, x_foundAt, x_recordStream, x_recordType, x_recordVersion, x_recordValue, x_originProjection, x_originPosition, x_originInstruction, x_joined, x_removed, x_eventCount, x_cutLevel, x_draftType, x_draftValue, x_ops, x_arguments, x_programLength, x_states, x_noted, x_stack, x_metHeight, x_groupType, x_cursor, x_keptCursor, x_parked, x_rowCount, x_rowPosition, x_rowTimes, x_rowDue) (y_count, y_flushed, y_calls, y_drafted, nI h, y_time, y_isCut, y_removed, y_stream, y_type, y_from, y_by, y_value, y_version, y_on, y_call, y_draftType, y_draftValue, y_op, y_with, y_length, y_height, y_torn, y_stack, y_position, y_cells, y_noted, y_wanted, y_formed, y_cursor, y_parked, y_where, y_often, y_due, y_many, y_found) := by
  obtain ⟨⟨hLg, hD, hP, hS, hG, hF⟩, hq, _, _, hst, hsv, hot, hpo, hac, hcut, hstr, hpg⟩ := H
  have hl := hLg.2.2.2.2.2.2.2.2.2.2.2.2.2
  have hc2 : c ≤ 2000 := hl.1.1
  have hlen := hP.2.1 p
  have hoa := hP.2.2.1 p i (by omega) hi
  have hxl : x_programLength p = nI (L p) := by rw [← hP.1]; exact hlen.1
  have va : vp_in (nI a) 2000 := vp_in_nI (by omega) (by decide)
  have em : nI h - 1 = nI (h - 1) := es_s1 h0
  have vm : vp_in (nI h - 1) 8 := by rw [em]; exact vp_in_nI (by omega) (by decide)
  have cm : (nI h - 1).toNatClampNeg = h - 1 := by rw [em, nI_clamp (by omega)]
  have ev : y_stack (h - 1) = x_stack (h - 1) := (hst (h - 1) (by omega)).symm
  obtain ⟨t, ht1, ht2, et⟩ := (es_fit_j (Or.inl ho10)).mp hfit
  subst ho10
  have hR : es_Rn f d L p a s old Pg D (h - 1) c q (x_records, x_removedCount, x_flushed, x_drafted, nI (h - 1), x_time, x_foundAt, x_recordStream, x_recordType, x_recordVersion, x_recordValue, x_originProjection, x_originPosition, x_originInstruction, x_joined, x_removed, x_eventCount, x_cutLevel, x_draftType, x_draftValue, x_ops, x_arguments, x_programLength, x_states, x_noted, x_stack, x_metHeight, x_groupType, x_cursor, x_keptCursor, x_parked, x_rowCount, x_rowPosition, x_rowTimes, x_rowDue) (y_count, y_flushed, y_calls, y_drafted, nI (h - 1), y_time, y_isCut, y_removed, y_stream, y_type, y_from, y_by, y_value, y_version, y_on, y_call, y_draftType, y_draftValue, y_op, y_with, y_length, y_height, y_torn, y_stack, y_position, y_cells, y_noted, y_wanted, y_formed, y_cursor, y_parked, y_where, y_often, y_due, y_many, y_found) := ⟨⟨hLg, hD, hP, hS, hG, hF⟩, hq, rfl, rfl, fun j hj => hst j (by omega), hsv, hot, hpo, hac, hcut, hstr, hpg⟩
  by_cases z : x_stack (h - 1) = 0
  · refine ⟨t, _, _, hR, Or.inr ⟨Or.inl rfl, et, ht1, ht2⟩, fun post n5 x5 h5 hr => ?_, fun post n5 hr => ?_⟩
    · refine ex_preJ hp3 hlen.2 hxl hi h5 (hoa.1.trans ho) (hoa.2.trans hcc) (fun y => absurd y (by omega)) (fun y => absurd y (by omega)) (fun _ => ex_pop h0 hh (br_t z (nm_r (nI_1 _) ?_))) (fun y => absurd y (by omega)) (by omega) (by omega)
      rw [et]; exact hr
    · refine ey_pre hp3 hlen.2 hlen.1 hi (by omega) ho hcc (by omega) (by omega) ⟨va, nm_e ?_⟩
      refine br_f (by decide) (br_f (by decide) (br_f (by decide) (br_f (by decide) (br_f (by decide) (br_f (by decide) (br_f (by decide) (br_f (by decide) (br_f (by decide) (br_f (by decide) (br_f (by decide) (br_f (by decide) (br_t rfl (nm_r em ⟨vm, br_t (by rw [cm, ev]; exact z) ?_⟩)))))))))))))
      rw [et]; exact hr
  · refine ⟨i + 1, _, _, hR, Or.inl ⟨rfl, by omega⟩, fun post n5 x5 h5 hr => ?_, fun post n5 hr => ?_⟩
    · exact ex_preJ hp3 hlen.2 hxl hi h5 (hoa.1.trans ho) (hoa.2.trans hcc) (fun y => absurd y (by omega)) (fun y => absurd y (by omega)) (fun _ => ex_pop h0 hh (br_f z (nm_r (nI_1 _) hr))) (fun y => absurd y (by omega)) (by omega) (by omega)
    · refine ey_pre hp3 hlen.2 hlen.1 hi (by omega) ho hcc (by omega) (by omega) ⟨va, nm_e ?_⟩
      refine br_f (by decide) (br_f (by decide) (br_f (by decide) (br_f (by decide) (br_f (by decide) (br_f (by decide) (br_f (by decide) (br_f (by decide) (br_f (by decide) (br_f (by decide) (br_f (by decide) (br_f (by decide) (br_t rfl (nm_r em ⟨vm, br_f (by rw [cm, ev]; exact z) ?_⟩)))))))))))))
      rw [nI_1 i]; exact hr
theorem em_jump (H : es_Rn f d L p a s old Pg D h c q (x_records, x_removedCount, x_flushed, x_drafted, nI h, x_time, x_foundAt, x_recordStream, x_recordType, x_recordVersion, x_recordValue, x_originProjection, x_originPosition, x_originInstruction, x_joined, x_removed, x_eventCount, x_cutLevel, x_draftType, x_draftValue, x_ops, x_arguments, x_programLength, x_states, x_noted, x_stack, x_metHeight, x_groupType, x_cursor, x_keptCursor, x_parked, x_rowCount, x_rowPosition, x_rowTimes, x_rowDue) (y_count, y_flushed, y_calls, y_drafted, nI h, y_time, y_isCut, y_removed, y_stream, y_type, y_from, y_by, y_value, y_version, y_on, y_call, y_draftType, y_draftValue, y_op, y_with, y_length, y_height, y_torn, y_stack, y_position, y_cells, y_noted, y_wanted, y_formed, y_cursor, y_parked, y_where, y_often, y_due, y_many, y_found)) (hp3 : p < 3) (hi : i < L p) (ho : y_op (14 * p + i) = nI o) (hcc : y_with (14 * p + i) = cc) (ho11 : o = 11) (hfit : es_fit o cc i (L p)) :
    es_Sp f d L p a s old Pg D h c q (L p) i o cc (x_records, x_removedCount, x_flushed, x_drafted, nI h, x_time, x_foundAt, x_recordStream, x_recordType, x_recordVersion, x_recordValue, x_originProjection, x_originPosition, x_originInstruction, x_joined, x_removed, x_eventCount, x_cutLevel, x_draftType, x_draftValue, x_ops, x_arguments, x_programLength, x_states, x_noted, x_stack, x_metHeight, x_groupType, x_cursor, x_keptCursor, x_parked, x_rowCount, x_rowPosition, x_rowTimes, x_rowDue) (y_count, y_flushed, y_calls, y_drafted, nI h, y_time, y_isCut, y_removed, y_stream, y_type, y_from, y_by, y_value, y_version, y_on, y_call, y_draftType, y_draftValue, y_op, y_with, y_length, y_height, y_torn, y_stack, y_position, y_cells, y_noted, y_wanted, y_formed, y_cursor, y_parked, y_where, y_often, y_due, y_many, y_found) := by
  have H0 := H
  obtain ⟨⟨hLg, hD, hP, hS, hG, hF⟩, hq, _, _, hst, hsv, hot, hpo, hac, hcut, hstr, hpg⟩ := H
  have hl := hLg.2.2.2.2.2.2.2.2.2.2.2.2.2
  have hc2 : c ≤ 2000 := hl.1.1
  have hlen := hP.2.1 p
  have hoa := hP.2.2.1 p i (by omega) hi
  have hxl : x_programLength p = nI (L p) := by rw [← hP.1]; exact hlen.1
  have va : vp_in (nI a) 2000 := vp_in_nI (by omega) (by decide)
  obtain ⟨t, ht1, ht2, et⟩ := (es_fit_j (Or.inr ho11)).mp hfit
  subst ho11
  refine ⟨t, _, _, H0, Or.inr ⟨Or.inr rfl, et, ht1, ht2⟩, fun post n5 x5 h5 hr => ?_, fun post n5 hr => ?_⟩
  · refine ex_preJ hp3 hlen.2 hxl hi h5 (hoa.1.trans ho) (hoa.2.trans hcc) (fun y => absurd y (by omega)) (fun _ => ?_) (fun y => absurd y (by omega)) (fun y => absurd y (by omega)) (by omega) (by omega)
    rw [et]; exact hr
  · refine ey_pre hp3 hlen.2 hlen.1 hi (by omega) ho hcc (by omega) (by omega) ⟨va, nm_e ?_⟩
    refine br_f (by decide) (br_f (by decide) (br_f (by decide) (br_f (by decide) (br_f (by decide) (br_f (by decide) (br_f (by decide) (br_f (by decide) (br_f (by decide) (br_f (by decide) (br_f (by decide) (br_f (by decide) (br_f (by decide) (br_t rfl ?_)))))))))))))
    rw [et]; exact hr
end
