section
/-! copies of states; note, form -/
variable {x_records x_removedCount x_flushed x_drafted x_height x_time x_foundAt : Int32} {x_recordStream x_recordType x_recordVersion x_recordValue x_originProjection x_originPosition x_originInstruction x_joined x_removed x_eventCount x_cutLevel x_draftType x_draftValue x_ops x_arguments x_programLength x_states x_noted x_stack x_metHeight x_groupType x_cursor x_keptCursor x_parked x_rowCount x_rowPosition x_rowTimes x_rowDue : Nat → Int32} {y_count y_flushed y_calls y_drafted y_top y_time : Int32} {y_isCut y_removed y_stream y_type y_from y_by y_value y_version y_on y_call y_draftType y_draftValue y_op y_with y_length y_height y_torn y_stack y_position y_cells y_noted y_wanted y_formed y_cursor y_parked y_where y_often y_due y_many y_found : Nat → Int32} {c f q : Nat} {cut rm str ty fr byi val ver onn call oi jn ec cl : Nat → Int32} {d : Nat} {L : Nat → Nat} {g : Nat}
theorem ex_copyState {pst : SX → Prop} {p m1 m2 r1 r2 : Nat} (h1 : r1 = 3 * m1 + p) (h2 : r2 = 3 * m2 + p) (hp3 : p < 3) (hm1 : m1 < 3) (hm2 : m2 < 3) (hne : m1 ≠ m2)
    (hp : pst (x_records, x_removedCount, x_flushed, x_drafted, x_height, x_time, x_foundAt, x_recordStream, x_recordType, x_recordVersion, x_recordValue, x_originProjection, x_originPosition, x_originInstruction, x_joined, x_removed, x_eventCount, x_cutLevel, x_draftType, x_draftValue, x_ops, x_arguments, x_programLength, es_cpy x_states (11 * r2) (11 * r1) 11, x_noted, x_stack, x_metHeight, x_groupType, x_cursor, x_keptCursor, x_parked, x_rowCount, x_rowPosition, x_rowTimes, x_rowDue)) : wpX_copyState pst (x_records, x_removedCount, x_flushed, x_drafted, x_height, x_time, x_foundAt, x_recordStream, x_recordType, x_recordVersion, x_recordValue, x_originProjection, x_originPosition, x_originInstruction, x_joined, x_removed, x_eventCount, x_cutLevel, x_draftType, x_draftValue, x_ops, x_arguments, x_programLength, x_states, x_noted, x_stack, x_metHeight, x_groupType, x_cursor, x_keptCursor, x_parked, x_rowCount, x_rowPosition, x_rowTimes, x_rowDue) (nI p) (nI m1) (nI m2) := by
  subst h1 h2
  dsimp only [wpX_copyState]
  refine ex_stateBase (ex_stateBase ?_)
  refine loop_0 (fun n i s => wX_copyState_19 pst (nI (11 * (3 * m1 + p))) (nI (11 * (3 * m2 + p))) x_records x_removedCount x_flushed x_drafted x_height x_time x_foundAt n (nI i) x_recordStream x_recordType x_recordVersion x_recordValue x_originProjection x_originPosition x_originInstruction x_joined x_removed x_eventCount x_cutLevel x_draftType x_draftValue x_ops x_arguments x_programLength s x_noted x_stack x_metHeight x_groupType x_cursor x_keptCursor x_parked x_rowCount x_rowPosition x_rowTimes x_rowDue) (fun i s => s = es_cpy x_states (11 * (3 * m2 + p)) (11 * (3 * m1 + p)) i) 11 _ es_cpy_0.symm ?_ ?_
  · intro n s hs
    subst hs
    exact br_t (by decide) hp
  · intro n i s hi hs ih
    subst hs
    refine br_f (nI_ge (b := 11) hi (by decide)) ?_
    rw [nI_add, nI_add, nI_clamp (by omega), nI_clamp (by omega)]
    exact ⟨vp_in_nI (by omega) (by decide), vp_in_nI (by omega) (by decide), nm_r (es_cpy_s (by omega)) (nm_r (nI_1 _) (ih _ rfl))⟩
theorem es_10 (a : Nat) : 10 * nI a = nI (10 * a) := by
  rw [show (10 : Int32) = nI 10 from rfl, pk_mul]
theorem ey_copyState {pst : SY → Prop} {a b : Nat} (ha : a < 9) (hb : b < 9) (hne : a ≠ b)
    (hp : pst (y_count, y_flushed, y_calls, y_drafted, y_top, y_time, y_isCut, y_removed, y_stream, y_type, y_from, y_by, y_value, y_version, y_on, y_call, y_draftType, y_draftValue, y_op, y_with, y_length, y_height, y_torn, y_stack, upd y_position b (y_position a), es_cpy y_cells (10 * b) (10 * a) 10, y_noted, y_wanted, y_formed, y_cursor, y_parked, y_where, y_often, y_due, y_many, y_found)) : wpY_copyState pst (y_count, y_flushed, y_calls, y_drafted, y_top, y_time, y_isCut, y_removed, y_stream, y_type, y_from, y_by, y_value, y_version, y_on, y_call, y_draftType, y_draftValue, y_op, y_with, y_length, y_height, y_torn, y_stack, y_position, y_cells, y_noted, y_wanted, y_formed, y_cursor, y_parked, y_where, y_often, y_due, y_many, y_found) (nI a) (nI b) := by
  refine ⟨vp_in_nI ha (by decide), vp_in_nI hb (by decide), nm_r (e' := upd y_position b (y_position a)) (by rw [nI_clamp (by omega), nI_clamp (by omega)]) ?_⟩
  refine loop_0 (fun n i s => wY_copyState_14 pst (nI a) (nI b) y_count y_flushed y_calls y_drafted y_top y_time n (nI i) y_isCut y_removed y_stream y_type y_from y_by y_value y_version y_on y_call y_draftType y_draftValue y_op y_with y_length y_height y_torn y_stack (upd y_position b (y_position a)) s y_noted y_wanted y_formed y_cursor y_parked y_where y_often y_due y_many y_found) (fun i s => s = es_cpy y_cells (10 * b) (10 * a) i) 10 _ es_cpy_0.symm ?_ ?_
  · intro n s hs
    subst hs
    exact br_t (by decide) hp
  · intro n i s hi hs ih
    subst hs
    refine br_f (nI_ge (b := 10) hi (by decide)) ?_
    rw [es_10, es_10, nI_add, nI_add, nI_clamp (by omega), nI_clamp (by omega)]
    exact ⟨vp_in_nI (by omega) (by decide), vp_in_nI (by omega) (by decide), nm_r (es_cpy_s (by omega)) (nm_r (nI_1 _) (ih _ rfl))⟩
theorem ey_copyCells {pst : SY → Prop} {a b : Nat} (ha : a + 10 ≤ 100) (hb : b + 10 ≤ 100) (hne : a + 10 ≤ b ∨ b + 10 ≤ a)
    (hp : pst (y_count, y_flushed, y_calls, y_drafted, y_top, y_time, y_isCut, y_removed, y_stream, y_type, y_from, y_by, y_value, y_version, y_on, y_call, y_draftType, y_draftValue, y_op, y_with, y_length, y_height, y_torn, y_stack, y_position, es_cpy y_cells b a 10, y_noted, y_wanted, y_formed, y_cursor, y_parked, y_where, y_often, y_due, y_many, y_found)) : wpY_copyCells pst (y_count, y_flushed, y_calls, y_drafted, y_top, y_time, y_isCut, y_removed, y_stream, y_type, y_from, y_by, y_value, y_version, y_on, y_call, y_draftType, y_draftValue, y_op, y_with, y_length, y_height, y_torn, y_stack, y_position, y_cells, y_noted, y_wanted, y_formed, y_cursor, y_parked, y_where, y_often, y_due, y_many, y_found) (nI a) (nI b) := by
  refine loop_0 (fun n i s => wY_copyCells_2 pst (nI a) (nI b) y_count y_flushed y_calls y_drafted y_top y_time n (nI i) y_isCut y_removed y_stream y_type y_from y_by y_value y_version y_on y_call y_draftType y_draftValue y_op y_with y_length y_height y_torn y_stack y_position s y_noted y_wanted y_formed y_cursor y_parked y_where y_often y_due y_many y_found) (fun i s => s = es_cpy y_cells b a i) 10 _ es_cpy_0.symm ?_ ?_
  · intro n s hs
    subst hs
    exact br_t (by decide) hp
  · intro n i s hi hs ih
    subst hs
    refine br_f (nI_ge (b := 10) hi (by decide)) ?_
    rw [nI_add, nI_add, nI_clamp (by omega), nI_clamp (by omega)]
    exact ⟨vp_in_nI (by omega) (by decide), vp_in_nI (by omega) (by decide), nm_r (es_cpy_s (by omega)) (nm_r (nI_1 _) (ih _ rfl))⟩
theorem i_vc_note {k : Nat} {u : SX} {v : SY} (I : i_Rel k u v) (hk : k + 4 ≤ 2048) (v1 : Int32) : wpX_note (fun r u' => wpY_note (fun r' v' => r' = r ∧ i_Rel (k + 4) u' v') v v1) u v1 := by
  obtain ⟨x_records, x_removedCount, x_flushed, x_drafted, x_height, x_time, x_foundAt, x_recordStream, x_recordType, x_recordVersion, x_recordValue, x_originProjection, x_originPosition, x_originInstruction, x_joined, x_removed, x_eventCount, x_cutLevel, x_draftType, x_draftValue, x_ops, x_arguments, x_programLength, x_states, x_noted, x_stack, x_metHeight, x_groupType, x_cursor, x_keptCursor, x_parked, x_rowCount, x_rowPosition, x_rowTimes, x_rowDue⟩ := u
  obtain ⟨y_count, y_flushed, y_calls, y_drafted, y_top, y_time, y_isCut, y_removed, y_stream, y_type, y_from, y_by, y_value, y_version, y_on, y_call, y_draftType, y_draftValue, y_op, y_with, y_length, y_height, y_torn, y_stack, y_position, y_cells, y_noted, y_wanted, y_formed, y_cursor, y_parked, y_where, y_often, y_due, y_many, y_found⟩ := v
  have J := i_up I
  obtain ⟨q, hq, c, f, d, L, hL, hD, hP, hS, hG, hF⟩ := I
  have hP0 := hP
  obtain ⟨rfl, hlen, hop, ho3, hok⟩ := hP
  obtain ⟨r, hX, hY, hr⟩ := em_stand v1
  dsimp only [wpX_note]
  refine hX _ ?_
  dsimp only [wpY_note]
  rcases hr with ⟨rfl, p, hp, rfl, hz⟩ | hr
  · rw [(hlen p).1] at hz
    obtain ⟨hE, hE2, hE3, hE4⟩ := hS p hp (es_pos hz)
    obtain ⟨⟨a, ha, e1, e2⟩, hkk⟩ := hE
    refine br_t rfl (ex_copyState (m1 := 0) (m2 := 2) (r1 := p) (r2 := 6 + p) (by omega) (by omega) hp (by omega) (by omega) (by omega) ⟨vp_in_nI hp (by decide), nm_e (ex_stateBase (m := 0) ?_)⟩)
    have ex : nI (11 * (3 * 0 + p)) + 10 = nI (11 * p + 10) := by rw [show 11 * (3 * 0 + p) = 11 * p by omega]; exact nI_add _ 10
    dsimp only
    rw [ex, nI_clamp (by omega), nI_clamp (by omega), es_cpy_o (by omega), e1]
    refine ⟨vp_in_nI (by omega) (by decide), hY _ (br_t rfl ?_)⟩
    have e6 : 6 + nI p = nI (6 + p) := nI_add 6 p
    rw [e6]
    refine ey_copyState (by omega) (by omega) (by omega) ⟨vp_in_nI hp (by decide), nm_e ⟨vp_in_nI (by omega) (by decide), ?_⟩⟩
    dsimp only
    refine ⟨?_, ?_⟩
    · rw [pk_un (by omega), e2]
    · rw [es_nb1]
      refine ⟨q, by omega, c, f, d, L, hL, hD, hP0, fun m hm hl => ?_, hG, hF⟩
      obtain ⟨m1, m2, m3, m4⟩ := hS m hm hl
      refine ⟨es_Eq_o m1 (by omega), es_Eq_o m2 (by omega), ?_, ?_⟩
      · by_cases e : m = p
        · rw [e, pk_us, pk_us]
        · rw [pk_un e, pk_un e]; exact m3
      · by_cases e : m = p
        · intro _
          rw [e]
          rw [e] at m1
          exact es_Eq_t m1
        · rw [pk_un e]
          exact fun z => es_Eq_o (m4 z) (by omega)
  · exact br_f hr (hY _ (br_f hr ⟨rfl, J⟩))
end
