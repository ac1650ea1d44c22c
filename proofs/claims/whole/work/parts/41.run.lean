section
/-! a program runs on an event -/
variable {x_records x_removedCount x_flushed x_drafted x_height x_time x_foundAt : Int32} {x_recordStream x_recordType x_recordVersion x_recordValue x_originProjection x_originPosition x_originInstruction x_joined x_removed x_eventCount x_cutLevel x_draftType x_draftValue x_ops x_arguments x_programLength x_states x_noted x_stack x_metHeight x_groupType x_cursor x_keptCursor x_parked x_rowCount x_rowPosition x_rowTimes x_rowDue : Nat → Int32} {y_count y_flushed y_calls y_drafted y_top y_time : Int32} {y_isCut y_removed y_stream y_type y_from y_by y_value y_version y_on y_call y_draftType y_draftValue y_op y_with y_length y_height y_torn y_stack y_position y_cells y_noted y_wanted y_formed y_cursor y_parked y_where y_often y_due y_many y_found : Nat → Int32} {c f q : Nat} {cut rm str ty fr byi val ver onn call oi jn ec cl : Nat → Int32} {d : Nat} {L : Nat → Nat} {p a s D : Nat} {old : Nat → Int32}
/-- how a run ends: well, or FULL -/
def es_Out (f d : Nat) (L : Nat → Nat) (p a s : Nat) (old : Nat → Int32) (D m i x5 : Nat) (u : SX) (v : SY) : Prop :=
  (∃ (c' q' : Nat) (u' : SX) (v' : SY), es_Q c' f d L q' u' v' ∧ q' + 2000 = c' + D ∧ es_psn u' p = nI a ∧ a < c' ∧
    (∀ (post : Int32 → SX → Prop) (n5 : Nat), m < n5 → post 1 u' → match u with | (x_records, x_removedCount, x_flushed, x_drafted, x_height, x_time, x_foundAt, x_recordStream, x_recordType, x_recordVersion, x_recordValue, x_originProjection, x_originPosition, x_originInstruction, x_joined, x_removed, x_eventCount, x_cutLevel, x_draftType, x_draftValue, x_ops, x_arguments, x_programLength, x_states, x_noted, x_stack, x_metHeight, x_groupType, x_cursor, x_keptCursor, x_parked, x_rowCount, x_rowPosition, x_rowTimes, x_rowDue) => wX_run_11 post (nI p) (nI a) (nI (11 * p + 2 * s)) n5 (nI i) (nI x5) x_records x_removedCount x_flushed x_drafted x_height x_time x_foundAt x_recordStream x_recordType x_recordVersion x_recordValue x_originProjection x_originPosition x_originInstruction x_joined x_removed x_eventCount x_cutLevel x_draftType x_draftValue x_ops x_arguments x_programLength x_states x_noted x_stack x_metHeight x_groupType x_cursor x_keptCursor x_parked x_rowCount x_rowPosition x_rowTimes x_rowDue) ∧
    (∀ (post : Int32 → SY → Prop) (n5 : Nat), m < n5 → post 1 v' → match v with | (y_count, y_flushed, y_calls, y_drafted, y_top, y_time, y_isCut, y_removed, y_stream, y_type, y_from, y_by, y_value, y_version, y_on, y_call, y_draftType, y_draftValue, y_op, y_with, y_length, y_height, y_torn, y_stack, y_position, y_cells, y_noted, y_wanted, y_formed, y_cursor, y_parked, y_where, y_often, y_due, y_many, y_found) => wY_fold_17 post (nI p) (nI a) n5 (nI i) y_count y_flushed y_calls y_drafted y_top y_time y_isCut y_removed y_stream y_type y_from y_by y_value y_version y_on y_call y_draftType y_draftValue y_op y_with y_length y_height y_torn y_stack y_position y_cells y_noted y_wanted y_formed y_cursor y_parked y_where y_often y_due y_many y_found)) ∨
  (∃ (c' q' : Nat) (u' : SX) (v' : SY), es_Q c' f d L q' (es_rst u' (11 * p + 2 * s) (old (2 * s)) (old (2 * s + 1))) v' ∧ q' + 2000 = c' + D ∧
    (∀ (post : Int32 → SX → Prop) (n5 : Nat), m < n5 → post 0 u' → match u with | (x_records, x_removedCount, x_flushed, x_drafted, x_height, x_time, x_foundAt, x_recordStream, x_recordType, x_recordVersion, x_recordValue, x_originProjection, x_originPosition, x_originInstruction, x_joined, x_removed, x_eventCount, x_cutLevel, x_draftType, x_draftValue, x_ops, x_arguments, x_programLength, x_states, x_noted, x_stack, x_metHeight, x_groupType, x_cursor, x_keptCursor, x_parked, x_rowCount, x_rowPosition, x_rowTimes, x_rowDue) => wX_run_11 post (nI p) (nI a) (nI (11 * p + 2 * s)) n5 (nI i) (nI x5) x_records x_removedCount x_flushed x_drafted x_height x_time x_foundAt x_recordStream x_recordType x_recordVersion x_recordValue x_originProjection x_originPosition x_originInstruction x_joined x_removed x_eventCount x_cutLevel x_draftType x_draftValue x_ops x_arguments x_programLength x_states x_noted x_stack x_metHeight x_groupType x_cursor x_keptCursor x_parked x_rowCount x_rowPosition x_rowTimes x_rowDue) ∧
    (∀ (post : Int32 → SY → Prop) (n5 : Nat), m < n5 → post 0 v' → match v with | (y_count, y_flushed, y_calls, y_drafted, y_top, y_time, y_isCut, y_removed, y_stream, y_type, y_from, y_by, y_value, y_version, y_on, y_call, y_draftType, y_draftValue, y_op, y_with, y_length, y_height, y_torn, y_stack, y_position, y_cells, y_noted, y_wanted, y_formed, y_cursor, y_parked, y_where, y_often, y_due, y_many, y_found) => wY_fold_17 post (nI p) (nI a) n5 (nI i) y_count y_flushed y_calls y_drafted y_top y_time y_isCut y_removed y_stream y_type y_from y_by y_value y_version y_on y_call y_draftType y_draftValue y_op y_with y_length y_height y_torn y_stack y_position y_cells y_noted y_wanted y_formed y_cursor y_parked y_where y_often y_due y_many y_found))
/-- what follows a step -/
theorem es_Out_sp {h' c q n i o m x5 : Nat} {cc : Int32} {u : SX} {v : SY} (hS : es_Sp f d L p a s old D h' c q n i o cc u v) (h5 : x5 < 14) (hm : i + m = n)
    (hn : ∀ i' u' v', i < i' → i' ≤ n → es_Rn f d L p a s old D h' c q u' v' → ((i' = i + 1 ∧ o ≠ 11) ∨ ((o = 10 ∨ o = 11) ∧ cc = nI i')) → es_Out f d L p a s old D (n - i') i' (x5 + 1) u' v') (hi : i < n) : es_Out f d L p a s old D m i x5 u v := by
  obtain ⟨i', u', v', hR, hw, hX, hY⟩ := hS
  have hii : i < i' ∧ i' ≤ n := by
    rcases hw with w | w
    · omega
    · exact w.2.2
  rcases hn i' u' v' hii.1 hii.2 hR (hw.imp id (fun w => ⟨w.1, w.2.1⟩)) with ⟨c', q', u2, v2, k1, k2, k3, k4, k5, k6⟩ | ⟨c', q', u2, v2, k1, k2, k5, k6⟩
  · refine Or.inl ⟨c', q', u2, v2, k1, k2, k3, k4, fun post n5 hn5 hp => ?_, fun post n5 hn5 hp => ?_⟩
    · obtain ⟨n6, rfl⟩ : ∃ n6, n5 = n6 + 1 := ⟨n5 - 1, by omega⟩
      exact hX post n6 x5 h5 (k5 post n6 (by omega) hp)
    · obtain ⟨n6, rfl⟩ : ∃ n6, n5 = n6 + 1 := ⟨n5 - 1, by omega⟩
      exact hY post n6 (k6 post n6 (by omega) hp)
  · refine Or.inr ⟨c', q', u2, v2, k1, k2, fun post n5 hn5 hp => ?_, fun post n5 hn5 hp => ?_⟩
    · obtain ⟨n6, rfl⟩ : ∃ n6, n5 = n6 + 1 := ⟨n5 - 1, by omega⟩
      exact hX post n6 x5 h5 (k5 post n6 (by omega) hp)
    · obtain ⟨n6, rfl⟩ : ∃ n6, n5 = n6 + 1 := ⟨n5 - 1, by omega⟩
      exact hY post n6 (k6 post n6 (by omega) hp)
theorem es_Out_em {h' c q n i m x5 : Nat} {u : SX} {v : SY} (hS : es_EC f d L p a s old D h' i u v ∨ es_EF f d L p a s old D c q i u v) (hq : q + 2000 = c + D) (h5 : x5 < 14) (hm : i + m = n) (hi : i < n)
    (hn : ∀ c' q' u' v', es_Rn f d L p a s old D h' c' q' u' v' → es_Out f d L p a s old D (n - (i + 1)) (i + 1) (x5 + 1) u' v') : es_Out f d L p a s old D m i x5 u v := by
  rcases hS with ⟨c', q', u', v', hR, hX, hY⟩ | ⟨u', v', hQ, hX, hY⟩
  · rcases hn c' q' u' v' hR with ⟨c', q', u2, v2, k1, k2, k3, k4, k5, k6⟩ | ⟨c', q', u2, v2, k1, k2, k5, k6⟩
    · refine Or.inl ⟨c', q', u2, v2, k1, k2, k3, k4, fun post n5 hn5 hp => ?_, fun post n5 hn5 hp => ?_⟩
      · obtain ⟨n6, rfl⟩ : ∃ n6, n5 = n6 + 1 := ⟨n5 - 1, by omega⟩
        exact hX post n6 x5 h5 (k5 post n6 (by omega) hp)
      · obtain ⟨n6, rfl⟩ : ∃ n6, n5 = n6 + 1 := ⟨n5 - 1, by omega⟩
        exact hY post n6 (k6 post n6 (by omega) hp)
    · refine Or.inr ⟨c', q', u2, v2, k1, k2, fun post n5 hn5 hp => ?_, fun post n5 hn5 hp => ?_⟩
      · obtain ⟨n6, rfl⟩ : ∃ n6, n5 = n6 + 1 := ⟨n5 - 1, by omega⟩
        exact hX post n6 x5 h5 (k5 post n6 (by omega) hp)
      · obtain ⟨n6, rfl⟩ : ∃ n6, n5 = n6 + 1 := ⟨n5 - 1, by omega⟩
        exact hY post n6 (k6 post n6 (by omega) hp)
  · refine Or.inr ⟨c, q, u', v', hQ, hq, fun post n5 hn5 hp => ?_, fun post n5 hn5 hp => ?_⟩
    · obtain ⟨n6, rfl⟩ : ∃ n6, n5 = n6 + 1 := ⟨n5 - 1, by omega⟩
      exact hX post n6 x5 h5 hp
    · obtain ⟨n6, rfl⟩ : ∃ n6, n5 = n6 + 1 := ⟨n5 - 1, by omega⟩
      exact hY post n6 hp
/-- the program is at its end -/
theorem em_end {h c q x5 : Nat} (H : es_Rn f d L p a s old D h c q (x_records, x_removedCount, x_flushed, x_drafted, x_height, x_time, x_foundAt, x_recordStream, x_recordType, x_recordVersion, x_recordValue, x_originProjection, x_originPosition, x_originInstruction, x_joined, x_removed, x_eventCount, x_cutLevel, x_draftType, x_draftValue, x_ops, x_arguments, x_programLength, x_states, x_noted, x_stack, x_metHeight, x_groupType, x_cursor, x_keptCursor, x_parked, x_rowCount, x_rowPosition, x_rowTimes, x_rowDue) (y_count, y_flushed, y_calls, y_drafted, y_top, y_time, y_isCut, y_removed, y_stream, y_type, y_from, y_by, y_value, y_version, y_on, y_call, y_draftType, y_draftValue, y_op, y_with, y_length, y_height, y_torn, y_stack, y_position, y_cells, y_noted, y_wanted, y_formed, y_cursor, y_parked, y_where, y_often, y_due, y_many, y_found)) (hp3 : p < 3) (h5 : x5 ≤ 14) : es_Out f d L p a s old D 0 (L p) x5 (x_records, x_removedCount, x_flushed, x_drafted, x_height, x_time, x_foundAt, x_recordStream, x_recordType, x_recordVersion, x_recordValue, x_originProjection, x_originPosition, x_originInstruction, x_joined, x_removed, x_eventCount, x_cutLevel, x_draftType, x_draftValue, x_ops, x_arguments, x_programLength, x_states, x_noted, x_stack, x_metHeight, x_groupType, x_cursor, x_keptCursor, x_parked, x_rowCount, x_rowPosition, x_rowTimes, x_rowDue) (y_count, y_flushed, y_calls, y_drafted, y_top, y_time, y_isCut, y_removed, y_stream, y_type, y_from, y_by, y_value, y_version, y_on, y_call, y_draftType, y_draftValue, y_op, y_with, y_length, y_height, y_torn, y_stack, y_position, y_cells, y_noted, y_wanted, y_formed, y_cursor, y_parked, y_where, y_often, y_due, y_many, y_found) := by
  obtain ⟨hQ, hq, _, _, hst, hsv, hot, hpo, hac, hcut, hstr⟩ := H
  have hlen := hQ.2.2.1.2.1 p
  have hxl : x_programLength p = nI (L p) := by rw [← hQ.2.2.1.1]; exact hlen.1
  have cp : (nI p).toNatClampNeg = p := nI_clamp (by omega)
  refine Or.inl ⟨c, q, _, _, hQ, hq, hpo, hac, fun post n5 hn5 hp => ?_, fun post n5 hn5 hp => ?_⟩
  · obtain ⟨n6, rfl⟩ : ∃ n6, n5 = n6 + 1 := ⟨n5 - 1, by omega⟩
    by_cases z : x5 = 14
    · exact br_t (nI_le (a := 14) (by omega) (by omega)) hp
    · exact br_f (nI_ge (b := 14) (by omega) (by decide)) ⟨vp_in_nI (by omega) (by decide), br_t (by rw [cp, hxl]; exact Int32.le_refl _) hp⟩
  · obtain ⟨n6, rfl⟩ : ∃ n6, n5 = n6 + 1 := ⟨n5 - 1, by omega⟩
    exact ⟨vp_in_nI (by omega) (by decide), br_t (by rw [cp, hlen.1]; exact Int32.le_refl _) hp⟩
theorem em_run {M : Nat → Int32} (hp3 : p < 3) (hs5 : s < 5) (hLp : 0 < L p) (hD : D ≤ 2 ^ 29)
    (yop ywi : Nat → Int32) (hM : ∀ i h, i < L p → h ≤ 4 → M i = nI h → es_Ins (L p) (fun i => yop (14 * p + i)) (fun i => ywi (14 * p + i)) M False i h) :
    ∀ m i x5 h c q (u : SX) (v : SY), i + m = L p → x5 ≤ i → h ≤ 4 → (i < L p → M i = nI h) → (match v with | (y_count, y_flushed, y_calls, y_drafted, y_top, y_time, y_isCut, y_removed, y_stream, y_type, y_from, y_by, y_value, y_version, y_on, y_call, y_draftType, y_draftValue, y_op, y_with, y_length, y_height, y_torn, y_stack, y_position, y_cells, y_noted, y_wanted, y_formed, y_cursor, y_parked, y_where, y_often, y_due, y_many, y_found) => y_op = yop ∧ y_with = ywi) → es_Rn f d L p a s old D h c q u v → es_Out f d L p a s old D m i x5 u v := by
  sorry
end
