section
/-! the start, and the calls that are short -/
variable {x_records x_removedCount x_flushed x_drafted x_height x_time x_foundAt : Int32} {x_recordStream x_recordType x_recordVersion x_recordValue x_originProjection x_originPosition x_originInstruction x_joined x_removed x_eventCount x_cutLevel x_draftType x_draftValue x_ops x_arguments x_programLength x_states x_noted x_stack x_metHeight x_groupType x_cursor x_keptCursor x_parked x_rowCount x_rowPosition x_rowTimes x_rowDue : Nat → Int32} {y_count y_flushed y_calls y_drafted y_top y_time : Int32} {y_isCut y_removed y_stream y_type y_from y_by y_value y_version y_on y_call y_draftType y_draftValue y_op y_with y_length y_height y_torn y_stack y_position y_cells y_noted y_wanted y_formed y_cursor y_parked y_where y_often y_due y_many y_found : Nat → Int32} {c f q : Nat} {cut rm str ty fr byi val ver onn call oi jn ec cl : Nat → Int32} {d : Nat} {L : Nat → Nat}
theorem i_vc0 : wpX_init (fun u => wpY_init (fun v => i_Rel 0 u v)) := by
  refine ⟨3, ?_⟩
  refine br_f (by decide) ⟨vp_in_nI (n := 0) (by decide) (by decide), nm_e (nm_e ?_)⟩
  refine br_f (by decide) ⟨vp_in_nI (n := 1) (by decide) (by decide), nm_e (nm_e ?_)⟩
  refine br_t (by decide) ?_
  refine ⟨0, by omega, 0, 0, 0, fun _ => 0, ⟨rfl, rfl, rfl, rfl, rfl, rfl, rfl, ?_, ?_, ?_, rfl, rfl, rfl, es_Log_0⟩, ⟨rfl, rfl, by omega, rfl, rfl, fun _ => ⟨0, by omega, rfl⟩⟩, ⟨rfl, fun _ => ⟨rfl, Nat.zero_le 14⟩, fun p i _ h => absurd h (Nat.not_lt_zero _), fun i h => absurd h (Nat.not_lt_zero _), fun p _ => ⟨fun _ => 0, rfl, fun i h hi => absurd hi (Nat.not_lt_zero _)⟩⟩, fun p _ h => absurd h (Nat.lt_irrefl 0), ⟨rfl, rfl, fun g hg => ⟨Or.inl ⟨rfl, ?_⟩, 0, 0, 0, 0, 0, fun _ => rfl, ⟨by omega, by omega, by omega, by omega⟩, ⟨rfl, rfl, rfl, rfl⟩, ⟨rfl, rfl, rfl, rfl, rfl, rfl⟩, fun i h => by omega, fun i h => by omega, fun i h => by omega, fun i h => by omega, fun i j h => by omega, fun i j h => by omega, fun i j h => by omega, fun i j h h' => by omega⟩⟩, Or.inl ⟨rfl, fun _ _ => rfl⟩⟩
  · funext i; rfl
  · funext i; rfl
  · funext i; rfl
  · have h : g = 0 ∨ g = 1 := by omega
    rcases h with h | h
    · subst h; rfl
    · subst h; rfl
theorem i_vc_event {k : Nat} {u : SX} {v : SY} (I : i_Rel k u v) (hk : k + 4 ≤ 2048) (v1 : Int32) (v2 : Int32) : wpX_event (fun r u' => wpY_event (fun r' v' => r' = r ∧ i_Rel (k + 4) u' v') v v1 v2) u v1 v2 := by
  obtain ⟨x_records, x_removedCount, x_flushed, x_drafted, x_height, x_time, x_foundAt, x_recordStream, x_recordType, x_recordVersion, x_recordValue, x_originProjection, x_originPosition, x_originInstruction, x_joined, x_removed, x_eventCount, x_cutLevel, x_draftType, x_draftValue, x_ops, x_arguments, x_programLength, x_states, x_noted, x_stack, x_metHeight, x_groupType, x_cursor, x_keptCursor, x_parked, x_rowCount, x_rowPosition, x_rowTimes, x_rowDue⟩ := u
  obtain ⟨y_count, y_flushed, y_calls, y_drafted, y_top, y_time, y_isCut, y_removed, y_stream, y_type, y_from, y_by, y_value, y_version, y_on, y_call, y_draftType, y_draftValue, y_op, y_with, y_length, y_height, y_torn, y_stack, y_position, y_cells, y_noted, y_wanted, y_formed, y_cursor, y_parked, y_where, y_often, y_due, y_many, y_found⟩ := v
  have J := i_up I
  obtain ⟨q, hq, c, f, d, L, hL, hD, hP, hS, hG, hF⟩ := I
  obtain ⟨rfl, rfl, hd, rfl, rfl, hdt⟩ := hD
  rcases es_rg v1 8 (by decide) with h | ⟨t, ht, rfl⟩
  · by_cases z : v1 < 0
    · refine br_t z ?_
      dsimp only [wpY_event]
      exact ey_outT 8 rfl h (br_f (by decide) ⟨rfl, J⟩)
    · refine br_f z (br_t (h.resolve_left z) ?_)
      dsimp only [wpY_event]
      exact ey_outT 8 rfl h (br_f (by decide) ⟨rfl, J⟩)
  · have hn := es_nar t (by omega)
    by_cases d4 : d < 4
    · refine br_f (nI_pos (by omega)) (br_f (nI_ge (b := 8) ht (by decide)) (br_t (nI_lt (b := 4) d4 (by decide)) ⟨pk_in d 4 d4, nm_e ⟨pk_in d 4 d4, nm_e (nm_r (nI_1 d) ?_)⟩⟩))
      dsimp only [wpY_event]
      refine ey_outF 8 t rfl (by decide) ht (br_t rfl (br_f ?_ ⟨pk_in d 4 d4, nm_e (nm_r (nI_1 d) ⟨pk_in d 4 d4, nm_e ⟨rfl, ?_⟩⟩)⟩))
      · exact fun z => by have := es_inj (b := 4) z (by omega) (by decide); omega
      · rw [hn.2, hn.1, nI_clamp (by omega)]
        refine ⟨q, by omega, c, f, d + 1, L, hL, ⟨rfl, rfl, by omega, rfl, rfl, fun i => ?_⟩, hP, hS, hG, hF⟩
        by_cases e : i = d
        · rw [e, pk_us]; exact ⟨t, ht, rfl⟩
        · rw [pk_un e]; exact hdt i
    · have e4 : d = 4 := by omega
      subst e4
      refine br_f (nI_pos (by omega)) (br_f (nI_ge (b := 8) ht (by decide)) (br_f (by decide) ?_))
      dsimp only [wpY_event]
      exact ey_outF 8 t rfl (by decide) ht (br_t rfl (br_t rfl ⟨rfl, J⟩))
theorem i_vc_version {k : Nat} {u : SX} {v : SY} (I : i_Rel k u v) (hk : k + 4 ≤ 2048) (v1 : Int32) : wpX_version (fun r => wpY_version (fun r' => r' = r ∧ i_Rel (k + 4) u v) v v1) u v1 := by
  obtain ⟨x_records, x_removedCount, x_flushed, x_drafted, x_height, x_time, x_foundAt, x_recordStream, x_recordType, x_recordVersion, x_recordValue, x_originProjection, x_originPosition, x_originInstruction, x_joined, x_removed, x_eventCount, x_cutLevel, x_draftType, x_draftValue, x_ops, x_arguments, x_programLength, x_states, x_noted, x_stack, x_metHeight, x_groupType, x_cursor, x_keptCursor, x_parked, x_rowCount, x_rowPosition, x_rowTimes, x_rowDue⟩ := u
  obtain ⟨y_count, y_flushed, y_calls, y_drafted, y_top, y_time, y_isCut, y_removed, y_stream, y_type, y_from, y_by, y_value, y_version, y_on, y_call, y_draftType, y_draftValue, y_op, y_with, y_length, y_height, y_torn, y_stack, y_position, y_cells, y_noted, y_wanted, y_formed, y_cursor, y_parked, y_where, y_often, y_due, y_many, y_found⟩ := v
  have J := i_up I
  obtain ⟨q, hq, c, f, d, L, hL, hD, hP, hS, hG, hF⟩ := I
  obtain ⟨rfl, rfl, rfl, rfl, rfl, rfl, rfl, rfl, rfl, rfl, rfl, rfl, rfl, hl⟩ := hL
  dsimp only [wpX_version, wpY_version]
  rcases es_rg v1 5 (by decide) with h | ⟨s, hs, rfl⟩
  · exact ex_isStream0 h (br_t rfl (ey_outT 5 rfl h (br_f (by decide) ⟨rfl, J⟩)))
  · refine ex_isStream1 hs (br_f (by decide) ⟨pk_in s 5 hs, ?_⟩)
    refine ey_outF 5 s rfl (by decide) hs (br_t rfl (ey_events hl.1.1 ⟨?_, J⟩))
    rw [nI_clamp (by omega), hl.2.2.2.2.2.1 s hs]
end
