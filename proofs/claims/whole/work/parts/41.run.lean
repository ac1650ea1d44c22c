section
/-! a program runs on an event -/
variable {x_records x_removedCount x_flushed x_drafted x_height x_time x_foundAt : Int32} {x_recordStream x_recordType x_recordVersion x_recordValue x_originProjection x_originPosition x_originInstruction x_joined x_removed x_eventCount x_cutLevel x_draftType x_draftValue x_ops x_arguments x_programLength x_states x_noted x_stack x_metHeight x_groupType x_cursor x_keptCursor x_parked x_rowCount x_rowPosition x_rowTimes x_rowDue : Nat → Int32} {y_count y_flushed y_calls y_drafted y_top y_time : Int32} {y_isCut y_removed y_stream y_type y_from y_by y_value y_version y_on y_call y_draftType y_draftValue y_op y_with y_length y_height y_torn y_stack y_position y_cells y_noted y_wanted y_formed y_cursor y_parked y_where y_often y_due y_many y_found : Nat → Int32} {c f q : Nat} {cut rm str ty fr byi val ver onn call oi jn ec cl : Nat → Int32} {d : Nat} {L : Nat → Nat} {p a s D : Nat} {old : Nat → Int32} {Pg : (Nat → Int32) → (Nat → Int32) → Prop}
/-- how a run ends: well, or FULL -/
def es_Out (f d : Nat) (L : Nat → Nat) (p a s : Nat) (old : Nat → Int32) (Pg : (Nat → Int32) → (Nat → Int32) → Prop) (D m i x5 : Nat) (u : SX) (v : SY) : Prop :=
  (∃ (c' q' : Nat) (u' : SX) (v' : SY), es_Q c' f d L q' u' v' ∧ q' + 2000 = c' + D ∧ es_psn u' p = nI a ∧ a < c' ∧
    (∀ (post : Int32 → SX → Prop) (n5 : Nat), m < n5 → post 1 u' → match u with | (x_records, x_removedCount, x_flushed, x_drafted, x_height, x_time, x_foundAt, x_recordStream, x_recordType, x_recordVersion, x_recordValue, x_originProjection, x_originPosition, x_originInstruction, x_joined, x_removed, x_eventCount, x_cutLevel, x_draftType, x_draftValue, x_ops, x_arguments, x_programLength, x_states, x_noted, x_stack, x_metHeight, x_groupType, x_cursor, x_keptCursor, x_parked, x_rowCount, x_rowPosition, x_rowTimes, x_rowDue) => wX_run_11 post (nI p) (nI a) (nI (11 * p + 2 * s)) n5 (nI i) (nI x5) x_records x_removedCount x_flushed x_drafted x_height x_time x_foundAt x_recordStream x_recordType x_recordVersion x_recordValue x_originProjection x_originPosition x_originInstruction x_joined x_removed x_eventCount x_cutLevel x_draftType x_draftValue x_ops x_arguments x_programLength x_states x_noted x_stack x_metHeight x_groupType x_cursor x_keptCursor x_parked x_rowCount x_rowPosition x_rowTimes x_rowDue) ∧
    (∀ (post : Int32 → SY → Prop) (n5 : Nat), m < n5 → post 1 v' → match v with | (y_count, y_flushed, y_calls, y_drafted, y_top, y_time, y_isCut, y_removed, y_stream, y_type, y_from, y_by, y_value, y_version, y_on, y_call, y_draftType, y_draftValue, y_op, y_with, y_length, y_height, y_torn, y_stack, y_position, y_cells, y_noted, y_wanted, y_formed, y_cursor, y_parked, y_where, y_often, y_due, y_many, y_found) => wY_fold_17 post (nI p) (nI a) n5 (nI i) y_count y_flushed y_calls y_drafted y_top y_time y_isCut y_removed y_stream y_type y_from y_by y_value y_version y_on y_call y_draftType y_draftValue y_op y_with y_length y_height y_torn y_stack y_position y_cells y_noted y_wanted y_formed y_cursor y_parked y_where y_often y_due y_many y_found)) ∨
  (∃ (c' q' : Nat) (u' : SX) (v' : SY), es_Q c' f d L q' (es_rst u' (11 * p + 2 * s) (old (2 * s)) (old (2 * s + 1))) v' ∧ q' + 2000 = c' + D ∧
    (∀ (post : Int32 → SX → Prop) (n5 : Nat), m < n5 → post 0 u' → match u with | (x_records, x_removedCount, x_flushed, x_drafted, x_height, x_time, x_foundAt, x_recordStream, x_recordType, x_recordVersion, x_recordValue, x_originProjection, x_originPosition, x_originInstruction, x_joined, x_removed, x_eventCount, x_cutLevel, x_draftType, x_draftValue, x_ops, x_arguments, x_programLength, x_states, x_noted, x_stack, x_metHeight, x_groupType, x_cursor, x_keptCursor, x_parked, x_rowCount, x_rowPosition, x_rowTimes, x_rowDue) => wX_run_11 post (nI p) (nI a) (nI (11 * p + 2 * s)) n5 (nI i) (nI x5) x_records x_removedCount x_flushed x_drafted x_height x_time x_foundAt x_recordStream x_recordType x_recordVersion x_recordValue x_originProjection x_originPosition x_originInstruction x_joined x_removed x_eventCount x_cutLevel x_draftType x_draftValue x_ops x_arguments x_programLength x_states x_noted x_stack x_metHeight x_groupType x_cursor x_keptCursor x_parked x_rowCount x_rowPosition x_rowTimes x_rowDue) ∧
    (∀ (post : Int32 → SY → Prop) (n5 : Nat), m < n5 → post 0 v' → match v with | (y_count, y_flushed, y_calls, y_drafted, y_top, y_time, y_isCut, y_removed, y_stream, y_type, y_from, y_by, y_value, y_version, y_on, y_call, y_draftType, y_draftValue, y_op, y_with, y_length, y_height, y_torn, y_stack, y_position, y_cells, y_noted, y_wanted, y_formed, y_cursor, y_parked, y_where, y_often, y_due, y_many, y_found) => wY_fold_17 post (nI p) (nI a) n5 (nI i) y_count y_flushed y_calls y_drafted y_top y_time y_isCut y_removed y_stream y_type y_from y_by y_value y_version y_on y_call y_draftType y_draftValue y_op y_with y_length y_height y_torn y_stack y_position y_cells y_noted y_wanted y_formed y_cursor y_parked y_where y_often y_due y_many y_found))
/-- what follows a step -/
theorem es_Out_sp {h' c q n i o m x5 : Nat} {cc : Int32} {u : SX} {v : SY} (hS : es_Sp f d L p a s old Pg D h' c q n i o cc u v) (h5 : x5 < 14) (hm : i + m = n)
    (hn : ∀ i' u' v', i < i' → i' ≤ n → es_Rn f d L p a s old Pg D h' c q u' v' → ((i' = i + 1 ∧ o ≠ 11) ∨ ((o = 10 ∨ o = 11) ∧ cc = nI i')) → es_Out f d L p a s old Pg D (n - i') i' (x5 + 1) u' v') (hi : i < n) : es_Out f d L p a s old Pg D m i x5 u v := by
  obtain ⟨i', u', v', hR, hw, hX, hY⟩ := hS
  have hii : i < i' ∧ i' ≤ n := by
    rcases hw with w | w
    · omega
    · exact w.2.2
  rcases hn i' u' v' hii.1 hii.2 hR (hw.imp id (fun w => ⟨w.1, w.2.1⟩)) with ⟨c', q', u2, v2, k1, k2, k3, k4, k5, k6⟩ | ⟨c', q', u2, v2, k1, k2, k5, k6⟩
  · refine Or.inl ⟨c', q', u2, v2, k1, k2, k3, k4, fun post n5 hn5 hp => ?_, fun post n5 hn5 hp => ?_⟩
    · obtain ⟨n6, rfl⟩ : ∃ n6, n5 = n6 + 1 := ⟨n5 - 1, by omega⟩
      exact hX post n6 x5 h5 (k5 post n6 (by omega) hp)
    · obtain ⟨n6, rfl⟩ : ∃ n6, n5 = n6 + 1 := ⟨n5 - 1, by omega⟩
      exact hY post n6 (k6 post n6 (by omega) hp)
  · refine Or.inr ⟨c', q', u2, v2, k1, k2, fun post n5 hn5 hp => ?_, fun post n5 hn5 hp => ?_⟩
    · obtain ⟨n6, rfl⟩ : ∃ n6, n5 = n6 + 1 := ⟨n5 - 1, by omega⟩
      exact hX post n6 x5 h5 (k5 post n6 (by omega) hp)
    · obtain ⟨n6, rfl⟩ : ∃ n6, n5 = n6 + 1 := ⟨n5 - 1, by omega⟩
      exact hY post n6 (k6 post n6 (by omega) hp)
theorem es_Out_em {h' c q n i m x5 : Nat} {u : SX} {v : SY} (hS : es_EC f d L p a s old Pg D h' i u v ∨ es_EF f d L p a s old Pg D c q i u v) (hq : q + 2000 = c + D) (h5 : x5 < 14) (hm : i + m = n) (hi : i < n)
    (hn : ∀ c' q' u' v', es_Rn f d L p a s old Pg D h' c' q' u' v' → es_Out f d L p a s old Pg D (n - (i + 1)) (i + 1) (x5 + 1) u' v') : es_Out f d L p a s old Pg D m i x5 u v := by
  rcases hS with ⟨c', q', u', v', hR, hX, hY⟩ | ⟨u', v', hQ, hX, hY⟩
  · rcases hn c' q' u' v' hR with ⟨c', q', u2, v2, k1, k2, k3, k4, k5, k6⟩ | ⟨c', q', u2, v2, k1, k2, k5, k6⟩
    · refine Or.inl ⟨c', q', u2, v2, k1, k2, k3, k4, fun post n5 hn5 hp => ?_, fun post n5 hn5 hp => ?_⟩
      · obtain ⟨n6, rfl⟩ : ∃ n6, n5 = n6 + 1 := ⟨n5 - 1, by omega⟩
        exact hX post n6 x5 h5 (k5 post n6 (by omega) hp)
      · obtain ⟨n6, rfl⟩ : ∃ n6, n5 = n6 + 1 := ⟨n5 - 1, by omega⟩
        exact hY post n6 (k6 post n6 (by omega) hp)
    · refine Or.inr ⟨c', q', u2, v2, k1, k2, fun post n5 hn5 hp => ?_, fun post n5 hn5 hp => ?_⟩
      · obtain ⟨n6, rfl⟩ : ∃ n6, n5 = n6 + 1 := ⟨n5 - 1, by omega⟩
        exact hX post n6 x5 h5 (k5 post n6 (by omega) hp)
      · obtain ⟨n6, rfl⟩ : ∃ n6, n5 = n6 + 1 := ⟨n5 - 1, by omega⟩
        exact hY post n6 (k6 post n6 (by omega) hp)
  · refine Or.inr ⟨c, q, u', v', hQ, hq, fun post n5 hn5 hp => ?_, fun post n5 hn5 hp => ?_⟩
    · obtain ⟨n6, rfl⟩ : ∃ n6, n5 = n6 + 1 := ⟨n5 - 1, by omega⟩
      exact hX post n6 x5 h5 hp
    · obtain ⟨n6, rfl⟩ : ∃ n6, n5 = n6 + 1 := ⟨n5 - 1, by omega⟩
      exact hY post n6 hp
/-- the program is at its end -/
theorem em_end {h c q x5 : Nat} (H : es_Rn f d L p a s old Pg D h c q (x_records, x_removedCount, x_flushed, x_drafted, x_height, x_time, x_foundAt, x_recordStream, x_recordType, x_recordVersion, x_recordValue, x_originProjection, x_originPosition, x_originInstruction, x_joined, x_removed, x_eventCount, x_cutLevel, x_draftType, x_draftValue, x_ops, x_arguments, x_programLength, x_states, x_noted, x_stack, x_metHeight, x_groupType, x_cursor, x_keptCursor, x_parked, x_rowCount, x_rowPosition, x_rowTimes, x_rowDue) (y_count, y_flushed, y_calls, y_drafted, y_top, y_time, y_isCut, y_removed, y_stream, y_type, y_from, y_by, y_value, y_version, y_on, y_call, y_draftType, y_draftValue, y_op, y_with, y_length, y_height, y_torn, y_stack, y_position, y_cells, y_noted, y_wanted, y_formed, y_cursor, y_parked, y_where, y_often, y_due, y_many, y_found)) (hp3 : p < 3) (h5 : x5 ≤ 14) : es_Out f d L p a s old Pg D 0 (L p) x5 (x_records, x_removedCount, x_flushed, x_drafted, x_height, x_time, x_foundAt, x_recordStream, x_recordType, x_recordVersion, x_recordValue, x_originProjection, x_originPosition, x_originInstruction, x_joined, x_removed, x_eventCount, x_cutLevel, x_draftType, x_draftValue, x_ops, x_arguments, x_programLength, x_states, x_noted, x_stack, x_metHeight, x_groupType, x_cursor, x_keptCursor, x_parked, x_rowCount, x_rowPosition, x_rowTimes, x_rowDue) (y_count, y_flushed, y_calls, y_drafted, y_top, y_time, y_isCut, y_removed, y_stream, y_type, y_from, y_by, y_value, y_version, y_on, y_call, y_draftType, y_draftValue, y_op, y_with, y_length, y_height, y_torn, y_stack, y_position, y_cells, y_noted, y_wanted, y_formed, y_cursor, y_parked, y_where, y_often, y_due, y_many, y_found) := by
  obtain ⟨hQ, hq, _, _, hst, hsv, hot, hpo, hac, hcut, hstr, hpg⟩ := H
  have hlen := hQ.2.2.1.2.1 p
  have hxl : x_programLength p = nI (L p) := by rw [← hQ.2.2.1.1]; exact hlen.1
  have cp : (nI p).toNatClampNeg = p := nI_clamp (by omega)
  refine Or.inl ⟨c, q, _, _, hQ, hq, hpo, hac, fun post n5 hn5 hp => ?_, fun post n5 hn5 hp => ?_⟩
  · obtain ⟨n6, rfl⟩ : ∃ n6, n5 = n6 + 1 := ⟨n5 - 1, by omega⟩
    by_cases z : x5 = 14
    · exact br_t (nI_le (a := 14) (by omega) (by omega)) hp
    · exact br_f (nI_ge (b := 14) (by omega) (by decide)) ⟨vp_in_nI (by omega) (by decide), br_t (by rw [cp, hxl]; exact Int32.le_refl _) hp⟩
  · obtain ⟨n6, rfl⟩ : ∃ n6, n5 = n6 + 1 := ⟨n5 - 1, by omega⟩
    exact ⟨vp_in_nI (by omega) (by decide), br_t (by rw [cp, hlen.1]; exact Int32.le_refl _) hp⟩
theorem em_run {M yop ywi : Nat → Int32} (hp3 : p < 3) (hs5 : s < 5) (hLp : 0 < L p) (hD : D ≤ 2 ^ 29)
    (hM : ∀ i h, i < L p → h ≤ 4 → M i = nI h → es_Ins (L p) (fun i => yop (14 * p + i)) (fun i => ywi (14 * p + i)) M False i h) :
    ∀ m i x5 h c q (u : SX) (v : SY), i + m = L p → L p ≤ 14 → x5 ≤ i → h ≤ 4 → (i < L p → M i = nI h) → es_Rn f d L p a s old (fun o w => o = yop ∧ w = ywi) D h c q u v → es_Out f d L p a s old (fun o w => o = yop ∧ w = ywi) D m i x5 u v := by
  intro m
  induction m using Nat.strongRecOn with
  | ind m ih =>
    intro i x5 h c q u v hm h14 h5 hh hMi hR
    obtain ⟨x_records, x_removedCount, x_flushed, x_drafted, x_height, x_time, x_foundAt, x_recordStream, x_recordType, x_recordVersion, x_recordValue, x_originProjection, x_originPosition, x_originInstruction, x_joined, x_removed, x_eventCount, x_cutLevel, x_draftType, x_draftValue, x_ops, x_arguments, x_programLength, x_states, x_noted, x_stack, x_metHeight, x_groupType, x_cursor, x_keptCursor, x_parked, x_rowCount, x_rowPosition, x_rowTimes, x_rowDue⟩ := u
    obtain ⟨y_count, y_flushed, y_calls, y_drafted, y_top, y_time, y_isCut, y_removed, y_stream, y_type, y_from, y_by, y_value, y_version, y_on, y_call, y_draftType, y_draftValue, y_op, y_with, y_length, y_height, y_torn, y_stack, y_position, y_cells, y_noted, y_wanted, y_formed, y_cursor, y_parked, y_where, y_often, y_due, y_many, y_found⟩ := v
    by_cases hin : i < L p
    · have hx := hR.2.2.1
      have hy := hR.2.2.2.1
      subst hx hy
      have hq := hR.2.1
      obtain ⟨e1, e2⟩ := hR.2.2.2.2.2.2.2.2.2.2.2
      obtain ⟨o, ho14, eo, hfit, htk, hb4, hj, hs⟩ := hM i h hin hh (hMi hin)
      have ho : y_op (14 * p + i) = nI o := by rw [e1]; exact eo
      have x14 : x5 < 14 := by omega
      have hcc : y_with (14 * p + i) = ywi (14 * p + i) := by rw [e2]
      have nx : ∀ c' q' i' u' v', i < i' → i' ≤ L p → es_Rn f d L p a s old (fun o w => o = yop ∧ w = ywi) D (h - es_tk o + es_gv o) c' q' u' v' → ((i' = i + 1 ∧ o ≠ 11) ∨ ((o = 10 ∨ o = 11) ∧ ywi (14 * p + i) = nI i')) → o ≠ 13 → es_Out f d L p a s old (fun o w => o = yop ∧ w = ywi) D (L p - i') i' (x5 + 1) u' v' := by
        intro c' q' i' u' v' g1 g2 gR gw g13
        refine ih (L p - i') (by omega) i' (x5 + 1) _ c' q' u' v' (by omega) h14 (by omega) hb4 (fun g => ?_) gR
        rcases gw with ⟨w1, w2⟩ | ⟨w1, w2⟩
        · subst w1
          rcases hs w2 g13 with y | ⟨_, y⟩
          · exact y
          · rcases y with y | y
            · exact absurd y (fun y => y)
            · omega
        · rcases hj i' w1 (by omega) w2 with y | ⟨_, y⟩
          · exact y
          · rcases y with y | y
            · exact absurd y (fun y => y)
            · omega
      have sp : es_Sp f d L p a s old (fun o w => o = yop ∧ w = ywi) D (h - es_tk o + es_gv o) c q (L p) i o (ywi (14 * p + i)) (x_records, x_removedCount, x_flushed, x_drafted, nI h, x_time, x_foundAt, x_recordStream, x_recordType, x_recordVersion, x_recordValue, x_originProjection, x_originPosition, x_originInstruction, x_joined, x_removed, x_eventCount, x_cutLevel, x_draftType, x_draftValue, x_ops, x_arguments, x_programLength, x_states, x_noted, x_stack, x_metHeight, x_groupType, x_cursor, x_keptCursor, x_parked, x_rowCount, x_rowPosition, x_rowTimes, x_rowDue) (y_count, y_flushed, y_calls, y_drafted, nI h, y_time, y_isCut, y_removed, y_stream, y_type, y_from, y_by, y_value, y_version, y_on, y_call, y_draftType, y_draftValue, y_op, y_with, y_length, y_height, y_torn, y_stack, y_position, y_cells, y_noted, y_wanted, y_formed, y_cursor, y_parked, y_where, y_often, y_due, y_many, y_found) → o ≠ 13 → es_Out f d L p a s old (fun o w => o = yop ∧ w = ywi) D m i x5 (x_records, x_removedCount, x_flushed, x_drafted, nI h, x_time, x_foundAt, x_recordStream, x_recordType, x_recordVersion, x_recordValue, x_originProjection, x_originPosition, x_originInstruction, x_joined, x_removed, x_eventCount, x_cutLevel, x_draftType, x_draftValue, x_ops, x_arguments, x_programLength, x_states, x_noted, x_stack, x_metHeight, x_groupType, x_cursor, x_keptCursor, x_parked, x_rowCount, x_rowPosition, x_rowTimes, x_rowDue) (y_count, y_flushed, y_calls, y_drafted, nI h, y_time, y_isCut, y_removed, y_stream, y_type, y_from, y_by, y_value, y_version, y_on, y_call, y_draftType, y_draftValue, y_op, y_with, y_length, y_height, y_torn, y_stack, y_position, y_cells, y_noted, y_wanted, y_formed, y_cursor, y_parked, y_where, y_often, y_due, y_many, y_found) :=
        fun hS g13 => es_Out_sp hS x14 hm (fun i' u' v' g1 g2 gR gw => nx c q i' u' v' g1 g2 gR gw g13) hin
      rcases es_o14 ho14 with e | e | e | e | e | e | e | e | e | e | e | e | e | e
      · subst e; exact sp (em_push hR hp3 hs5 hLp hin (by have : es_tk 0 = 0 := rfl; have : es_gv 0 = 1 := rfl; omega) ho hcc (by omega) hfit) (by omega)
      · subst e; exact sp (em_push hR hp3 hs5 hLp hin (by have : es_tk 1 = 0 := rfl; have : es_gv 1 = 1 := rfl; omega) ho hcc (by omega) hfit) (by omega)
      · subst e; exact sp (em_push hR hp3 hs5 hLp hin (by have : es_tk 2 = 0 := rfl; have : es_gv 2 = 1 := rfl; omega) ho hcc (by omega) hfit) (by omega)
      · subst e; exact sp (em_push hR hp3 hs5 hLp hin (by have : es_tk 3 = 0 := rfl; have : es_gv 3 = 1 := rfl; omega) ho hcc (by omega) hfit) (by omega)
      · subst e
        have t : es_tk 4 = 2 := rfl
        have g : es_gv 4 = 1 := rfl
        have eh : h - es_tk 4 + es_gv 4 = h - 1 := by omega
        rw [eh] at sp
        exact sp (em_bin hR hp3 hin (by omega) hh ho hcc (by omega) (by omega)) (by omega)
      · subst e
        have t : es_tk 5 = 2 := rfl
        have g : es_gv 5 = 1 := rfl
        have eh : h - es_tk 5 + es_gv 5 = h - 1 := by omega
        rw [eh] at sp
        exact sp (em_bin hR hp3 hin (by omega) hh ho hcc (by omega) (by omega)) (by omega)
      · subst e
        have t : es_tk 6 = 2 := rfl
        have g : es_gv 6 = 1 := rfl
        have eh : h - es_tk 6 + es_gv 6 = h - 1 := by omega
        rw [eh] at sp
        exact sp (em_bin hR hp3 hin (by omega) hh ho hcc (by omega) (by omega)) (by omega)
      · subst e
        have t : es_tk 7 = 2 := rfl
        have g : es_gv 7 = 1 := rfl
        have eh : h - es_tk 7 + es_gv 7 = h - 1 := by omega
        rw [eh] at sp
        exact sp (em_bin hR hp3 hin (by omega) hh ho hcc (by omega) (by omega)) (by omega)
      · subst e
        have t : es_tk 8 = 1 := rfl
        have g : es_gv 8 = 2 := rfl
        have eh : h - es_tk 8 + es_gv 8 = h + 1 := by omega
        rw [eh] at sp
        exact sp (em_dup hR hp3 hin (by omega) (by omega) ho hcc rfl) (by omega)
      · subst e
        have t : es_tk 9 = 1 := rfl
        have g : es_gv 9 = 0 := rfl
        have eh : h - es_tk 9 + es_gv 9 = h - 1 := by omega
        rw [eh] at sp
        exact sp (em_set hR hp3 hs5 hin (by omega) hh ho hcc rfl hfit) (by omega)
      · subst e
        have t : es_tk 10 = 1 := rfl
        have g : es_gv 10 = 0 := rfl
        have eh : h - es_tk 10 + es_gv 10 = h - 1 := by omega
        rw [eh] at sp
        exact sp (em_zero hR hp3 hin (by omega) hh ho hcc rfl hfit) (by omega)
      · subst e
        have t : es_tk 11 = 0 := rfl
        have g : es_gv 11 = 0 := rfl
        have eh : h - es_tk 11 + es_gv 11 = h := by omega
        rw [eh] at sp
        exact sp (em_jump hR hp3 hin ho hcc rfl hfit) (by omega)
      · subst e
        have t : es_tk 12 = 1 := rfl
        have g : es_gv 12 = 0 := rfl
        have eh : h - es_tk 12 + es_gv 12 = h - 1 := by omega
        rw [eh] at nx
        exact es_Out_em (em_emitS hR hp3 hs5 hLp hin (by omega) hh hD ho hcc hfit) hq x14 hm hin (fun c' q' u' v' gR => nx c' q' (i + 1) u' v' (by omega) (by omega) gR (Or.inl ⟨rfl, by omega⟩) (by omega))
      · subst e
        have hQ := hR.1
        have hpo := hR.2.2.2.2.2.2.2.1
        have hac := hR.2.2.2.2.2.2.2.2.1
        have hlen := hQ.2.2.1.2.1 p
        have hoa := hQ.2.2.1.2.2.1 p i (by omega) hin
        have hxl : x_programLength p = nI (L p) := by rw [← hQ.2.2.1.1]; exact hlen.1
        have cp : (nI p).toNatClampNeg = p := nI_clamp (by omega)
        refine Or.inl ⟨c, q, _, _, hQ, hq, hpo, hac, fun post n5 hn5 hp => ?_, fun post n5 hn5 hp => ?_⟩
        · obtain ⟨n6, rfl⟩ : ∃ n6, n5 = n6 + 1 + 1 := ⟨n5 - 2, by omega⟩
          refine ex_preJ hp3 hlen.2 hxl hin x14 (hoa.1.trans ho) (hoa.2.trans hcc) (fun _ => ?_) (fun y => absurd y (by omega)) (fun y => absurd y (by omega)) (fun y => absurd y (by omega)) (by omega) (by omega)
          by_cases z : x5 + 1 = 14
          · exact br_t (nI_le (a := 14) (by omega) (by omega)) hp
          · exact br_f (nI_ge (b := 14) (by omega) (by decide)) ⟨vp_in_nI (by omega) (by decide), br_t (by rw [cp, hxl]; exact Int32.le_refl _) hp⟩
        · obtain ⟨n6, rfl⟩ : ∃ n6, n5 = n6 + 1 := ⟨n5 - 1, by omega⟩
          have v56 : vp_in (nI (14 * p + i)) 56 := vp_in_nI (by omega) (by decide)
          refine ⟨vp_in_nI (by omega) (by decide), br_f (by rw [cp, hlen.1]; exact nI_ge hin (by omega)) (nm_r (e' := nI (14 * p + i)) (by rw [es_14y, nI_add]) ⟨v56, ?_⟩)⟩
          rw [nI_clamp (by omega), ho]
          exact br_t rfl hp
    · have e : i = L p := by omega
      have em : m = 0 := by omega
      subst e em
      exact em_end hR hp3 (by omega)
end
