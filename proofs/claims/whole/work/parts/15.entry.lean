section
/-! entries of rows go and come -/
variable {x_records x_removedCount x_flushed x_drafted x_height x_time x_foundAt : Int32} {x_recordStream x_recordType x_recordVersion x_recordValue x_originProjection x_originPosition x_originInstruction x_joined x_removed x_eventCount x_cutLevel x_draftType x_draftValue x_ops x_arguments x_programLength x_states x_noted x_stack x_metHeight x_groupType x_cursor x_keptCursor x_parked x_rowCount x_rowPosition x_rowTimes x_rowDue : Nat → Int32} {y_count y_flushed y_calls y_drafted y_top y_time : Int32} {y_isCut y_removed y_stream y_type y_from y_by y_value y_version y_on y_call y_draftType y_draftValue y_op y_with y_length y_height y_torn y_stack y_position y_cells y_noted y_wanted y_formed y_cursor y_parked y_where y_often y_due y_many y_found : Nat → Int32}
theorem es_6 (r : Nat) : nI r * 6 = nI (6 * r) := by
  rw [show (6 : Int32) = nI 6 from rfl, pk_mul, Nat.mul_comm]
theorem es_8 (r : Nat) : 8 * nI r = nI (8 * r) := by
  rw [show (8 : Int32) = nI 8 from rfl, pk_mul]
theorem ex_remove {pst : SX → Prop} {r k w b : Nat} (hb : b = 6 * r) (hr : r < 6) (hn : x_rowCount r = nI w) (hk : k < w) (h6 : w ≤ 6)
    (hp : pst (x_records, x_removedCount, x_flushed, x_drafted, x_height, x_time, x_foundAt, x_recordStream, x_recordType, x_recordVersion, x_recordValue, x_originProjection, x_originPosition, x_originInstruction, x_joined, x_removed, x_eventCount, x_cutLevel, x_draftType, x_draftValue, x_ops, x_arguments, x_programLength, x_states, x_noted, x_stack, x_metHeight, x_groupType, x_cursor, x_keptCursor, x_parked, upd x_rowCount r (nI (w - 1)), es_del x_rowPosition (b + k) (b + (w - 1)), es_del x_rowTimes (b + k) (b + (w - 1)), es_del x_rowDue (b + k) (b + (w - 1)))) :
    wpX_removeEntry pst (x_records, x_removedCount, x_flushed, x_drafted, x_height, x_time, x_foundAt, x_recordStream, x_recordType, x_recordVersion, x_recordValue, x_originProjection, x_originPosition, x_originInstruction, x_joined, x_removed, x_eventCount, x_cutLevel, x_draftType, x_draftValue, x_ops, x_arguments, x_programLength, x_states, x_noted, x_stack, x_metHeight, x_groupType, x_cursor, x_keptCursor, x_parked, x_rowCount, x_rowPosition, x_rowTimes, x_rowDue) (nI r) (nI k) := by
  subst hb
  have e1 : (nI r).toNatClampNeg = r := nI_clamp (by omega)
  refine nm_r (es_6 r) ⟨pk_in r 6 hr, pk_in r 6 hr, nm_r (e' := upd x_rowCount r (nI (w - 1))) (by rw [e1, hn, es_s1 (by omega)]) ?_⟩
  refine pk_loop (fun n i (s : (Nat → Int32) × (Nat → Int32) × (Nat → Int32)) => wX_removeEntry_18 pst (nI r) (nI (6 * r)) x_records x_removedCount x_flushed x_drafted x_height x_time x_foundAt n (nI i) x_recordStream x_recordType x_recordVersion x_recordValue x_originProjection x_originPosition x_originInstruction x_joined x_removed x_eventCount x_cutLevel x_draftType x_draftValue x_ops x_arguments x_programLength x_states x_noted x_stack x_metHeight x_groupType x_cursor x_keptCursor x_parked (upd x_rowCount r (nI (w - 1))) s.1 s.2.1 s.2.2)
    (fun i s => k ≤ i ∧ s = (es_del x_rowPosition (6 * r + k) (6 * r + i), es_del x_rowTimes (6 * r + k) (6 * r + i), es_del x_rowDue (6 * r + k) (6 * r + i))) (w - 1) k (x_rowPosition, x_rowTimes, x_rowDue) (by omega) ?_ ?_ ?_
  · rw [es_del_0 (Nat.le_refl _), es_del_0 (Nat.le_refl _), es_del_0 (Nat.le_refl _)]
    exact ⟨Nat.le_refl _, rfl⟩
  · intro n s hs
    obtain ⟨_, hs⟩ := hs
    subst hs
    exact ⟨pk_in r 6 hr, br_t (by rw [e1, pk_us]; exact nI_le (Nat.le_refl _) (by omega)) hp⟩
  · intro n i s hi hs ih
    obtain ⟨hki, hs⟩ := hs
    subst hs
    refine ⟨pk_in r 6 hr, br_f (by rw [e1, pk_us]; exact nI_ge hi (by omega)) ?_⟩
    have c1 : (nI (6 * r) + nI i).toNatClampNeg = 6 * r + i := by rw [nI_add, nI_clamp (by omega)]
    have c2 : (nI (6 * r) + nI i + 1).toNatClampNeg = 6 * r + i + 1 := by rw [nI_add, nI_1, nI_clamp (by omega)]
    have v1 : vp_in (nI (6 * r) + nI i) 36 := by rw [nI_add]; exact vp_in_nI (by omega) (by decide)
    have v2 : vp_in (nI (6 * r) + nI i + 1) 36 := by rw [nI_add, nI_1]; exact vp_in_nI (by omega) (by decide)
    rw [c1, c2]
    exact ⟨v2, v1, nm_r (es_del_s (by omega)) ⟨v2, v1, nm_r (es_del_s (by omega)) ⟨v2, v1, nm_r (es_del_s (by omega)) (nm_r (nI_1 _) (ih (_, _, _) ⟨by omega, rfl⟩))⟩⟩⟩
theorem ey_strike {pst : SY → Prop} {r k w b : Nat} (hb : b = 8 * r) (hr : r < 6) (hn : y_many r = nI w) (hk : k < w) (h6 : w ≤ 6)
    (hp : pst (y_count, y_flushed, y_calls, y_drafted, y_top, y_time, y_isCut, y_removed, y_stream, y_type, y_from, y_by, y_value, y_version, y_on, y_call, y_draftType, y_draftValue, y_op, y_with, y_length, y_height, y_torn, y_stack, y_position, y_cells, y_noted, y_wanted, y_formed, y_cursor, y_parked, es_del y_where (b + k) (b + (w - 1)), es_del y_often (b + k) (b + (w - 1)), es_del y_due (b + k) (b + (w - 1)), upd y_many r (nI (w - 1)), y_found)) :
    wpY_strike pst (y_count, y_flushed, y_calls, y_drafted, y_top, y_time, y_isCut, y_removed, y_stream, y_type, y_from, y_by, y_value, y_version, y_on, y_call, y_draftType, y_draftValue, y_op, y_with, y_length, y_height, y_torn, y_stack, y_position, y_cells, y_noted, y_wanted, y_formed, y_cursor, y_parked, y_where, y_often, y_due, y_many, y_found) (nI r) (nI (b + k)) := by
  subst hb
  have e1 : (nI r).toNatClampNeg = r := nI_clamp (by omega)
  have hw := es_nar (w - 1) (by omega)
  refine ⟨pk_in r 6 hr, pk_in r 6 hr, nm_r (e' := upd y_many r (nI (w - 1))) (by rw [e1, hn, es_s1 (by omega), hw.2, hw.1]) ?_⟩
  refine pk_loop (fun n i (s : (Nat → Int32) × (Nat → Int32) × (Nat → Int32)) => wY_strike_13 pst (nI r) y_count y_flushed y_calls y_drafted y_top y_time n (nI i) y_isCut y_removed y_stream y_type y_from y_by y_value y_version y_on y_call y_draftType y_draftValue y_op y_with y_length y_height y_torn y_stack y_position y_cells y_noted y_wanted y_formed y_cursor y_parked s.1 s.2.1 s.2.2 (upd y_many r (nI (w - 1))) y_found)
    (fun i s => 8 * r + k ≤ i ∧ s = (es_del y_where (8 * r + k) i, es_del y_often (8 * r + k) i, es_del y_due (8 * r + k) i)) (8 * r + (w - 1)) (8 * r + k) (y_where, y_often, y_due) (by omega) ?_ ?_ ?_
  · rw [es_del_0 (Nat.le_refl _), es_del_0 (Nat.le_refl _), es_del_0 (Nat.le_refl _)]
    exact ⟨Nat.le_refl _, rfl⟩
  · intro n s hs
    obtain ⟨_, hs⟩ := hs
    subst hs
    exact ⟨pk_in r 6 hr, br_t (by rw [e1, pk_us, es_8, nI_add]; exact nI_le (Nat.le_refl _) (by omega)) hp⟩
  · intro n i s hi hs ih
    obtain ⟨hki, hs⟩ := hs
    subst hs
    refine ⟨pk_in r 6 hr, br_f (by rw [e1, pk_us, es_8, nI_add]; exact nI_ge hi (by omega)) ?_⟩
    have c1 : (nI i).toNatClampNeg = i := nI_clamp (by omega)
    have c2 : (nI i + 1).toNatClampNeg = i + 1 := by rw [nI_1, nI_clamp (by omega)]
    have v1 : vp_in (nI i) 64 := vp_in_nI (by omega) (by decide)
    have v2 : vp_in (nI i + 1) 64 := by rw [nI_1]; exact vp_in_nI (by omega) (by decide)
    rw [c1, c2]
    exact ⟨v2, v1, nm_r (es_del_s hki) ⟨v2, v1, nm_r (es_del_s hki) ⟨v2, v1, nm_r (es_del_s hki) (nm_r (nI_1 _) (ih (_, _, _) ⟨by omega, rfl⟩))⟩⟩⟩
theorem ex_insert {pst : SX → Prop} {r j w b : Nat} {x tm : Int32} (hb : b = 6 * r) (hr : r < 6) (hn : x_rowCount r = nI w) (hj : j ≤ w) (h6 : w < 6)
    (hp : pst (x_records, x_removedCount, x_flushed, x_drafted, x_height, x_time, x_foundAt, x_recordStream, x_recordType, x_recordVersion, x_recordValue, x_originProjection, x_originPosition, x_originInstruction, x_joined, x_removed, x_eventCount, x_cutLevel, x_draftType, x_draftValue, x_ops, x_arguments, x_programLength, x_states, x_noted, x_stack, x_metHeight, x_groupType, x_cursor, x_keptCursor, x_parked, upd x_rowCount r (nI (w + 1)), upd (es_ins x_rowPosition (b + j) (b + w)) (b + j) x, upd (es_ins x_rowTimes (b + j) (b + w)) (b + j) tm, x_rowDue)) :
    wpX_insertEntry pst (x_records, x_removedCount, x_flushed, x_drafted, x_height, x_time, x_foundAt, x_recordStream, x_recordType, x_recordVersion, x_recordValue, x_originProjection, x_originPosition, x_originInstruction, x_joined, x_removed, x_eventCount, x_cutLevel, x_draftType, x_draftValue, x_ops, x_arguments, x_programLength, x_states, x_noted, x_stack, x_metHeight, x_groupType, x_cursor, x_keptCursor, x_parked, x_rowCount, x_rowPosition, x_rowTimes, x_rowDue) (nI r) (nI j) x tm := by
  subst hb
  have e1 : (nI r).toNatClampNeg = r := nI_clamp (by omega)
  have key : ∀ m i, i = j + m → i ≤ w → wX_insertEntry_26 pst (nI r) (nI j) x tm (nI (6 * r)) x_records x_removedCount x_flushed x_drafted x_height x_time x_foundAt (m + 1) (nI i) x_recordStream x_recordType x_recordVersion x_recordValue x_originProjection x_originPosition x_originInstruction x_joined x_removed x_eventCount x_cutLevel x_draftType x_draftValue x_ops x_arguments x_programLength x_states x_noted x_stack x_metHeight x_groupType x_cursor x_keptCursor x_parked x_rowCount (es_ins x_rowPosition (6 * r + i) (6 * r + w)) (es_ins x_rowTimes (6 * r + i) (6 * r + w)) x_rowDue := by
    intro m
    induction m with
    | zero =>
      intro i hi hw
      have hij : j = i := by omega
      subst hij
      have c1 : (nI (6 * r) + nI j).toNatClampNeg = 6 * r + j := by rw [nI_add, nI_clamp (by omega)]
      have v1 : vp_in (nI (6 * r) + nI j) 36 := by rw [nI_add]; exact vp_in_nI (by omega) (by decide)
      refine br_t (nI_le (Nat.le_refl _) (by omega)) ?_
      rw [c1, e1, hn, nI_1]
      exact ⟨v1, nm_e ⟨v1, nm_e ⟨pk_in r 6 hr, pk_in r 6 hr, nm_e hp⟩⟩⟩
    | succ m ih =>
      intro i hi hw
      refine br_f (nI_ge (by omega) (by omega)) ?_
      have c1 : (nI (6 * r) + nI i).toNatClampNeg = 6 * r + i := by rw [nI_add, nI_clamp (by omega)]
      have c2 : (nI (6 * r) + nI i - 1).toNatClampNeg = 6 * r + i - 1 := by rw [nI_add, es_s1 (by omega), nI_clamp (by omega)]
      have v1 : vp_in (nI (6 * r) + nI i) 36 := by rw [nI_add]; exact vp_in_nI (by omega) (by decide)
      have v2 : vp_in (nI (6 * r) + nI i - 1) 36 := by rw [nI_add, es_s1 (by omega)]; exact vp_in_nI (by omega) (by decide)
      have h := ih (i - 1) (by omega) (by omega)
      rw [show 6 * r + (i - 1) = 6 * r + i - 1 by omega] at h
      rw [c1, c2]
      exact ⟨v2, v1, nm_r (es_ins_s (by omega) (by omega)) ⟨v2, v1, nm_r (es_ins_s (by omega) (by omega)) (nm_r (es_m1 (by omega)) h)⟩⟩
  have h := key (w - j) w (by omega) (Nat.le_refl w)
  rw [es_ins_0 (Nat.le_refl _), es_ins_0 (Nat.le_refl _)] at h
  refine ⟨pk_in r 6 hr, br_t (by rw [e1, hn]; exact nI_lt (b := 6) h6 (by decide)) (nm_r (es_6 r) ⟨pk_in r 6 hr, nm_r (e' := nI w) (by rw [e1, hn]) ⟨_, h⟩⟩)⟩
theorem ey_insert {pst : SY → Prop} {r j w b : Nat} {x tm : Int32} (hb : b = 8 * r) (hr : r < 6) (hn : y_many r = nI w) (hj : j ≤ w) (h6 : w < 6)
    (h1 : 0 < j → y_where (b + j - 1) ≤ x) (h2 : ∀ i, j ≤ i → i < w → ¬ y_where (b + i) ≤ x)
    (hp : pst (y_count, y_flushed, y_calls, y_drafted, y_top, y_time, y_isCut, y_removed, y_stream, y_type, y_from, y_by, y_value, y_version, y_on, y_call, y_draftType, y_draftValue, y_op, y_with, y_length, y_height, y_torn, y_stack, y_position, y_cells, y_noted, y_wanted, y_formed, y_cursor, y_parked, upd (es_ins y_where (b + j) (b + w)) (b + j) x, upd (es_ins y_often (b + j) (b + w)) (b + j) tm, y_due, upd y_many r (nI (w + 1)), y_found)) :
    wpY_insert pst (y_count, y_flushed, y_calls, y_drafted, y_top, y_time, y_isCut, y_removed, y_stream, y_type, y_from, y_by, y_value, y_version, y_on, y_call, y_draftType, y_draftValue, y_op, y_with, y_length, y_height, y_torn, y_stack, y_position, y_cells, y_noted, y_wanted, y_formed, y_cursor, y_parked, y_where, y_often, y_due, y_many, y_found) (nI r) x tm := by
  subst hb
  have e1 : (nI r).toNatClampNeg = r := nI_clamp (by omega)
  have hw := es_nar (w + 1) (by omega)
  have key : ∀ m i, i = j + m → i ≤ w → wY_insert_19 pst (nI r) x tm y_count y_flushed y_calls y_drafted y_top y_time (m + 1) (nI (8 * r + i)) y_isCut y_removed y_stream y_type y_from y_by y_value y_version y_on y_call y_draftType y_draftValue y_op y_with y_length y_height y_torn y_stack y_position y_cells y_noted y_wanted y_formed y_cursor y_parked (es_ins y_where (8 * r + i) (8 * r + w)) (es_ins y_often (8 * r + i) (8 * r + w)) y_due (upd y_many r (nI (w + 1))) y_found := by
    intro m
    induction m with
    | zero =>
      intro i hi hw
      have hij : j = i := by omega
      subst hij
      have c1 : (nI (8 * r + j)).toNatClampNeg = 8 * r + j := nI_clamp (by omega)
      have v1 : vp_in (nI (8 * r + j)) 64 := vp_in_nI (by omega) (by decide)
      have fin : wY_insert_79 pst x tm (nI (8 * r + j)) y_count y_flushed y_calls y_drafted y_top y_time y_isCut y_removed y_stream y_type y_from y_by y_value y_version y_on y_call y_draftType y_draftValue y_op y_with y_length y_height y_torn y_stack y_position y_cells y_noted y_wanted y_formed y_cursor y_parked (es_ins y_where (8 * r + j) (8 * r + w)) (es_ins y_often (8 * r + j) (8 * r + w)) y_due (upd y_many r (nI (w + 1))) y_found := by
        refine ⟨v1, nm_r (by rw [c1]) ⟨v1, nm_r (by rw [c1]) hp⟩⟩
      by_cases z : j = 0
      · exact br_t (by rw [es_8]; exact nI_le (by omega) (by omega)) fin
      · refine br_f (by rw [es_8]; exact nI_ge (by omega) (by omega)) ?_
        rw [es_s1 (by omega)]
        refine ⟨vp_in_nI (by omega) (by decide), br_t ?_ fin⟩
        rw [nI_clamp (by omega), es_ins_o (by omega)]
        exact h1 (by omega)
    | succ m ih =>
      intro i hi hw
      refine br_f (by rw [es_8]; exact nI_ge (by omega) (by omega)) ?_
      have c1 : (nI (8 * r + i)).toNatClampNeg = 8 * r + i := nI_clamp (by omega)
      have c2 : (nI (8 * r + i) - 1).toNatClampNeg = 8 * r + i - 1 := by rw [es_s1 (by omega), nI_clamp (by omega)]
      have v1 : vp_in (nI (8 * r + i)) 64 := vp_in_nI (by omega) (by decide)
      have v2 : vp_in (nI (8 * r + i) - 1) 64 := by rw [es_s1 (by omega)]; exact vp_in_nI (by omega) (by decide)
      have h := ih (i - 1) (by omega) (by omega)
      rw [show 8 * r + (i - 1) = 8 * r + i - 1 by omega] at h
      rw [c1, c2]
      refine ⟨v2, br_f ?_ ⟨v2, v1, nm_r (es_ins_s (by omega) (by omega)) ⟨v2, v1, nm_r (es_ins_s (by omega) (by omega)) (nm_r (es_m1 (by omega)) h)⟩⟩⟩
      rw [es_ins_o (by omega), show 8 * r + i - 1 = 8 * r + (i - 1) by omega]
      exact h2 (i - 1) (by omega) (by omega)
  have h := key (w - j) w (by omega) (Nat.le_refl w)
  rw [es_ins_0 (Nat.le_refl _), es_ins_0 (Nat.le_refl _)] at h
  refine ⟨pk_in r 6 hr, pk_in r 6 hr, nm_r (e' := upd y_many r (nI (w + 1))) (by rw [e1, hn, nI_1, hw.2, hw.1]) (nm_r (e' := nI (8 * r + w)) (by rw [e1, hn, es_8, nI_add]) ⟨_, h⟩)⟩
theorem ey_lend {pst : Int32 → SY → Prop} {g w : Nat} {x tm : Int32} (hg : g < 2) (hn : y_many g = nI w) (h6 : w < 6)
    (hp : pst x (y_count, y_flushed, y_calls, y_drafted, y_top, y_time, y_isCut, y_removed, y_stream, y_type, y_from, y_by, y_value, y_version, y_on, y_call, y_draftType, y_draftValue, y_op, y_with, y_length, y_height, y_torn, y_stack, y_position, y_cells, y_noted, y_wanted, y_formed, y_cursor, y_parked, upd y_where (8 * g + w) x, upd y_often (8 * g + w) tm, upd y_due (8 * g + w) (y_time + 10), upd y_many g (nI (w + 1)), y_found)) :
    wpY_lend pst (y_count, y_flushed, y_calls, y_drafted, y_top, y_time, y_isCut, y_removed, y_stream, y_type, y_from, y_by, y_value, y_version, y_on, y_call, y_draftType, y_draftValue, y_op, y_with, y_length, y_height, y_torn, y_stack, y_position, y_cells, y_noted, y_wanted, y_formed, y_cursor, y_parked, y_where, y_often, y_due, y_many, y_found) (nI g) x tm := by
  have e1 : (nI g).toNatClampNeg = g := nI_clamp (by omega)
  have hw := es_nar (w + 1) (by omega)
  have c1 : (nI (8 * g + w)).toNatClampNeg = 8 * g + w := nI_clamp (by omega)
  have v1 : vp_in (nI (8 * g + w)) 64 := vp_in_nI (by omega) (by decide)
  refine ⟨pk_in g 6 (by omega), pk_in g 6 (by omega), nm_r (e' := upd y_many g (nI (w + 1))) (by rw [e1, hn, nI_1, hw.2, hw.1]) (nm_r (e' := nI (8 * g + w)) (by rw [e1, hn, es_8, nI_add]) ?_)⟩
  rw [c1]
  exact ⟨v1, nm_e ⟨v1, nm_e ⟨v1, nm_e hp⟩⟩⟩
end
