section
/-! small methods of both -/
variable {x_records x_removedCount x_flushed x_drafted x_height x_time x_foundAt : Int32} {x_recordStream x_recordType x_recordVersion x_recordValue x_originProjection x_originPosition x_originInstruction x_joined x_removed x_eventCount x_cutLevel x_draftType x_draftValue x_ops x_arguments x_programLength x_states x_noted x_stack x_metHeight x_groupType x_cursor x_keptCursor x_parked x_rowCount x_rowPosition x_rowTimes x_rowDue : Nat → Int32} {y_count y_flushed y_calls y_drafted y_top y_time : Int32} {y_isCut y_removed y_stream y_type y_from y_by y_value y_version y_on y_call y_draftType y_draftValue y_op y_with y_length y_height y_torn y_stack y_position y_cells y_noted y_wanted y_formed y_cursor y_parked y_where y_often y_due y_many y_found : Nat → Int32} {c f q : Nat} {cut rm str ty fr byi val ver onn call oi jn ec cl : Nat → Int32} {post : Int32 → Prop}
theorem ey_outT {x lim : Int32} (n : Nat) (hl : lim = nI n) (h : x < 0 ∨ nI n ≤ x) (hp : post 1) : wpY_out post x lim := by
  subst hl
  by_cases z : x < 0
  · exact br_t z hp
  · rcases h with h | h
    · exact absurd h z
    · exact br_f z (br_f (fun w => es_ltirr (es_ltle w h)) hp)
theorem ey_outF {lim : Int32} (n j : Nat) (hl : lim = nI n) (hn : n < 2 ^ 31) (h : j < n) (hp : post 0) : wpY_out post (nI j) lim := by
  subst hl
  exact br_f (nI_pos (by omega)) (br_t (nI_lt h hn) hp)
theorem ex_isStream0 {x : Int32} (h : x < 0 ∨ nI 5 ≤ x) (hp : post 0) : wpX_isStream post (x_records, x_removedCount, x_flushed, x_drafted, x_height, x_time, x_foundAt, x_recordStream, x_recordType, x_recordVersion, x_recordValue, x_originProjection, x_originPosition, x_originInstruction, x_joined, x_removed, x_eventCount, x_cutLevel, x_draftType, x_draftValue, x_ops, x_arguments, x_programLength, x_states, x_noted, x_stack, x_metHeight, x_groupType, x_cursor, x_keptCursor, x_parked, x_rowCount, x_rowPosition, x_rowTimes, x_rowDue) x := by
  by_cases z : x < 0
  · exact br_t z hp
  · exact br_f z (br_t (h.resolve_left z) hp)
theorem ex_isStream1 {j : Nat} (h : j < 5) (hp : post 1) : wpX_isStream post (x_records, x_removedCount, x_flushed, x_drafted, x_height, x_time, x_foundAt, x_recordStream, x_recordType, x_recordVersion, x_recordValue, x_originProjection, x_originPosition, x_originInstruction, x_joined, x_removed, x_eventCount, x_cutLevel, x_draftType, x_draftValue, x_ops, x_arguments, x_programLength, x_states, x_noted, x_stack, x_metHeight, x_groupType, x_cursor, x_keptCursor, x_parked, x_rowCount, x_rowPosition, x_rowTimes, x_rowDue) (nI j) :=
  br_f (nI_pos (by omega)) (br_f (nI_ge h (by decide)) hp)
theorem ex_isProj0 {x : Int32} (h : x < 0 ∨ nI 3 ≤ x) (hp : post 0) : wpX_isProjection post (x_records, x_removedCount, x_flushed, x_drafted, x_height, x_time, x_foundAt, x_recordStream, x_recordType, x_recordVersion, x_recordValue, x_originProjection, x_originPosition, x_originInstruction, x_joined, x_removed, x_eventCount, x_cutLevel, x_draftType, x_draftValue, x_ops, x_arguments, x_programLength, x_states, x_noted, x_stack, x_metHeight, x_groupType, x_cursor, x_keptCursor, x_parked, x_rowCount, x_rowPosition, x_rowTimes, x_rowDue) x := by
  by_cases z : x < 0
  · exact br_t z hp
  · exact br_f z (br_t (h.resolve_left z) hp)
theorem ex_isProj1 {j : Nat} (h : j < 3) (hp : post 1) : wpX_isProjection post (x_records, x_removedCount, x_flushed, x_drafted, x_height, x_time, x_foundAt, x_recordStream, x_recordType, x_recordVersion, x_recordValue, x_originProjection, x_originPosition, x_originInstruction, x_joined, x_removed, x_eventCount, x_cutLevel, x_draftType, x_draftValue, x_ops, x_arguments, x_programLength, x_states, x_noted, x_stack, x_metHeight, x_groupType, x_cursor, x_keptCursor, x_parked, x_rowCount, x_rowPosition, x_rowTimes, x_rowDue) (nI j) :=
  br_f (nI_pos (by omega)) (br_f (nI_ge h (by decide)) hp)
theorem ex_stateBase {p m : Nat} (hp : post (nI (11 * (3 * m + p)))) : wpX_stateBase post (x_records, x_removedCount, x_flushed, x_drafted, x_height, x_time, x_foundAt, x_recordStream, x_recordType, x_recordVersion, x_recordValue, x_originProjection, x_originPosition, x_originInstruction, x_joined, x_removed, x_eventCount, x_cutLevel, x_draftType, x_draftValue, x_ops, x_arguments, x_programLength, x_states, x_noted, x_stack, x_metHeight, x_groupType, x_cursor, x_keptCursor, x_parked, x_rowCount, x_rowPosition, x_rowTimes, x_rowDue) (nI p) (nI m) := by
  show post (((nI m * nI 3) + nI p) * nI 11)
  rw [pk_mul, nI_add, pk_mul, show (m * 3 + p) * 11 = 11 * (3 * m + p) by omega]
  exact hp
theorem ex_hasRoom1 {n : Nat} (hc : c ≤ 2000) (h1 : c - es_rc rm c + n ≤ 40) (h2 : c + n ≤ 2000) (hp : post 1) : wpX_hasRoom post (nI c, nI (es_rc rm c), nI f, x_drafted, x_height, x_time, x_foundAt, str, es_T cut ty, es_V cut ver val, es_W cut val, fr, onn, oi, jn, rm, ec, cl, x_draftType, x_draftValue, x_ops, x_arguments, x_programLength, x_states, x_noted, x_stack, x_metHeight, x_groupType, x_cursor, x_keptCursor, x_parked, x_rowCount, x_rowPosition, x_rowTimes, x_rowDue) (nI n) := by
  have hr := es_rc_le rm c
  refine br_f ?_ (br_f ?_ hp)
  · rw [pk_sub hr, nI_add]; exact nI_nlt (a := 40) h1 (by decide)
  · rw [nI_add]; exact nI_nlt (a := 2000) h2 (by decide)
theorem ex_hasRoom0 {n : Nat} (hc : c ≤ 2000) (hn : n ≤ 4) (h : ¬ (c - es_rc rm c + n ≤ 40 ∧ c + n ≤ 2000)) (hp : post 0) : wpX_hasRoom post (nI c, nI (es_rc rm c), nI f, x_drafted, x_height, x_time, x_foundAt, str, es_T cut ty, es_V cut ver val, es_W cut val, fr, onn, oi, jn, rm, ec, cl, x_draftType, x_draftValue, x_ops, x_arguments, x_programLength, x_states, x_noted, x_stack, x_metHeight, x_groupType, x_cursor, x_keptCursor, x_parked, x_rowCount, x_rowPosition, x_rowTimes, x_rowDue) (nI n) := by
  have hr := es_rc_le rm c
  by_cases z : c - es_rc rm c + n ≤ 40
  · refine br_f ?_ (br_t ?_ hp)
    · rw [pk_sub hr, nI_add]; exact nI_nlt (a := 40) z (by decide)
    · rw [nI_add]; exact nI_lt (a := 2000) (by omega) (by omega)
  · refine br_t ?_ hp
    rw [pk_sub hr, nI_add]; exact nI_lt (a := 40) (by omega) (by omega)
theorem ey_there (hc : c ≤ 2000) (hp : post (nI (c - es_rc rm c))) : wpY_there post (nI c, nI f, nI q, y_drafted, y_top, y_time, cut, rm, str, ty, fr, byi, val, ver, onn, call, y_draftType, y_draftValue, y_op, y_with, y_length, y_height, y_torn, y_stack, y_position, y_cells, y_noted, y_wanted, y_formed, y_cursor, y_parked, y_where, y_often, y_due, y_many, y_found) := by
  refine loop_0 (fun n i s => wY_there_4 post (nI c) (nI f) (nI q) y_drafted y_top y_time cut rm str ty fr byi val ver onn call y_draftType y_draftValue y_op y_with y_length y_height y_torn y_stack y_position y_cells y_noted y_wanted y_formed y_cursor y_parked y_where y_often y_due y_many y_found n s (nI i)) (fun i s => s = nI (i - es_rc rm i)) c _ rfl ?_ ?_
  · intro n s hs
    subst hs
    exact br_t (nI_le (Nat.le_refl c) (by omega)) hp
  · intro n i s hi hs ih
    subst hs
    have hr := es_rc_le rm i
    refine br_f (nI_ge hi (by omega)) ⟨vp_in_nI (by omega) (by decide), ?_⟩
    rw [nI_clamp (by omega)]
    refine br_c (fun z => ?_) (fun z => ?_)
    · refine nm_r (nI_1 _) (nm_r (nI_1 _) (ih _ ?_))
      rw [es_rc_s, if_pos z, show i + 1 - es_rc rm i = i - es_rc rm i + 1 by omega]
    · refine nm_r (nI_1 _) (ih _ ?_)
      rw [es_rc_s, if_neg z, show i + 1 - (es_rc rm i + 1) = i - es_rc rm i by omega]
theorem ey_events {e : Nat} {s : Int32} (he : e ≤ 2000) (hp : post (nI (es_ev cut str s e))) : wpY_events post (nI c, nI f, nI q, y_drafted, y_top, y_time, cut, rm, str, ty, fr, byi, val, ver, onn, call, y_draftType, y_draftValue, y_op, y_with, y_length, y_height, y_torn, y_stack, y_position, y_cells, y_noted, y_wanted, y_formed, y_cursor, y_parked, y_where, y_often, y_due, y_many, y_found) s (nI e) := by
  refine loop_0 (fun n i r => wY_events_5 post s (nI e) (nI c) (nI f) (nI q) y_drafted y_top y_time cut rm str ty fr byi val ver onn call y_draftType y_draftValue y_op y_with y_length y_height y_torn y_stack y_position y_cells y_noted y_wanted y_formed y_cursor y_parked y_where y_often y_due y_many y_found n r (nI i)) (fun i r => r = nI (es_ev cut str s i)) e _ rfl ?_ ?_
  · intro n r hr
    subst hr
    exact br_t (nI_le (Nat.le_refl e) (by omega)) hp
  · intro n i r hi hr ih
    subst hr
    refine br_f (nI_ge hi (by omega)) ⟨vp_in_nI (by omega) (by decide), ?_⟩
    rw [nI_clamp (by omega)]
    refine br_c (fun z => ⟨vp_in_nI (by omega) (by decide), br_c (fun w => ?_) (fun w => ?_)⟩) (fun z => ?_)
    · refine nm_r (nI_1 _) (nm_r (nI_1 _) (ih _ ?_))
      rw [es_ev_s, if_pos ⟨z, w⟩]
    · refine nm_r (nI_1 _) (ih _ ?_)
      rw [es_ev_s, if_neg (fun y => w y.2)]
    · refine nm_r (nI_1 _) (ih _ ?_)
      rw [es_ev_s, if_neg (fun y => z y.1)]
theorem ey_hidden {e i : Nat} (he : e ≤ 2000) (hi : i < 2000) (h1 : es_hid cut str val ver e i → post 1) (h0 : ¬ es_hid cut str val ver e i → post 0) : wpY_hidden post (nI c, nI f, nI q, y_drafted, y_top, y_time, cut, rm, str, ty, fr, byi, val, ver, onn, call, y_draftType, y_draftValue, y_op, y_with, y_length, y_height, y_torn, y_stack, y_position, y_cells, y_noted, y_wanted, y_formed, y_cursor, y_parked, y_where, y_often, y_due, y_many, y_found) (nI i) (nI e) := by
  refine loop_0 (fun n k (_ : Unit) => wY_hidden_2 post (nI i) (nI e) (nI c) (nI f) (nI q) y_drafted y_top y_time cut rm str ty fr byi val ver onn call y_draftType y_draftValue y_op y_with y_length y_height y_torn y_stack y_position y_cells y_noted y_wanted y_formed y_cursor y_parked y_where y_often y_due y_many y_found n (nI k)) (fun k _ => ∀ j, j < k → ¬ (¬ cut j = 0 ∧ str j = str i ∧ ver i < val j)) e () (fun j hj => by omega) ?_ ?_
  · intro n _ hs
    exact br_t (nI_le (Nat.le_refl e) (by omega)) (h0 (fun ⟨k, hk, z⟩ => hs k hk z))
  · intro n k _ hk hs ih
    have nx : ¬ (¬ cut k = 0 ∧ str k = str i ∧ ver i < val k) → ∀ j, j < k + 1 → ¬ (¬ cut j = 0 ∧ str j = str i ∧ ver i < val j) := fun z => lt_s hs z
    refine br_f (nI_ge hk (by omega)) ⟨vp_in_nI (by omega) (by decide), ?_⟩
    rw [nI_clamp (by omega), nI_clamp (by omega)]
    refine br_c (fun z => nm_r (nI_1 _) (ih () (nx (fun y => y.1 z)))) (fun z => ⟨vp_in_nI (by omega) (by decide), vp_in_nI (by omega) (by decide), br_c (fun w => ⟨vp_in_nI (by omega) (by decide), vp_in_nI (by omega) (by decide), br_c (fun y => nm_r (nI_1 _) (ih () (nx (fun t => es_ltirr (es_ltle t.2.2 y))))) (fun y => h1 ⟨k, hk, z, w, es_nle y⟩)⟩) (fun w => nm_r (nI_1 _) (ih () (nx (fun t => w t.2.1))))⟩)
theorem ey_shown (hc : c ≤ 2000) {i : Nat} (hi : i < 2000) (hv : 0 ≤ ver i) (h1 : es_S cut str val ver c i → post 1) (h0 : ¬ es_S cut str val ver c i → post 0) : wpY_shown post (nI c, nI f, nI q, y_drafted, y_top, y_time, cut, rm, str, ty, fr, byi, val, ver, onn, call, y_draftType, y_draftValue, y_op, y_with, y_length, y_height, y_torn, y_stack, y_position, y_cells, y_noted, y_wanted, y_formed, y_cursor, y_parked, y_where, y_often, y_due, y_many, y_found) (nI i) := by
  have key := es_S_iff (cut := cut) (str := str) (val := val) (c := c) hv
  refine ⟨vp_in_nI (by omega) (by decide), ?_⟩
  rw [nI_clamp (by omega)]
  refine br_c (fun z => ?_) (fun z => h0 (fun w => z w.1))
  refine ey_hidden hc hi (fun w => ?_) (fun w => ?_)
  · exact br_f (by decide) (h0 (fun y => (key.mp y).2 w))
  · exact br_t rfl (h1 (key.mpr ⟨z, w⟩))
theorem ex_isShown {i s : Nat} (hi : i < 2000) (hs : s < 5) (hst : str i = nI s) (ht : ¬ ty i = -1) (hcl : cl s = es_cm cut str val (nI s) c) (h1 : es_S cut str val ver c i → post 1) (h0 : ¬ es_S cut str val ver c i → post 0) : wpX_isShown post (nI c, x_removedCount, nI f, x_drafted, x_height, x_time, x_foundAt, str, es_T cut ty, es_V cut ver val, es_W cut val, fr, onn, oi, jn, rm, ec, cl, x_draftType, x_draftValue, x_ops, x_arguments, x_programLength, x_states, x_noted, x_stack, x_metHeight, x_groupType, x_cursor, x_keptCursor, x_parked, x_rowCount, x_rowPosition, x_rowTimes, x_rowDue) (nI i) := by
  refine ⟨vp_in_nI (by omega) (by decide), ?_⟩
  rw [nI_clamp (by omega), hst, nI_clamp (by omega)]
  refine br_c (fun z => h0 (fun w => (es_Tc ht).mp z w.1)) (fun z => ?_)
  have hz : cut i = 0 := Classical.byContradiction (fun w => z ((es_Tc ht).mpr w))
  refine ⟨vp_in_nI (by omega) (by decide), vp_in_nI (by omega) (by decide), vp_in_nI hs (by decide), ?_⟩
  rw [es_V0 hz, hcl]
  refine br_c (fun w => h0 (fun y => ?_)) (fun w => h1 ⟨hz, ?_⟩)
  · have := y.2
    rw [hst] at this
    exact es_ltirr (es_lelt this w)
  · rw [hst]; exact es_nlt w
/-- from the log's relation -/
theorem ex_isShownL (H : es_Log c f q cut rm str ty fr byi val ver onn call oi jn ec cl) {i : Nat} (hi : i < 2000) (h1 : es_S cut str val ver c i → post 1) (h0 : ¬ es_S cut str val ver c i → post 0) : wpX_isShown post (nI c, x_removedCount, nI f, x_drafted, x_height, x_time, x_foundAt, str, es_T cut ty, es_V cut ver val, es_W cut val, fr, onn, oi, jn, rm, ec, cl, x_draftType, x_draftValue, x_ops, x_arguments, x_programLength, x_states, x_noted, x_stack, x_metHeight, x_groupType, x_cursor, x_keptCursor, x_parked, x_rowCount, x_rowPosition, x_rowTimes, x_rowDue) (nI i) := by
  obtain ⟨s, hs, e⟩ := H.2.1 i
  obtain ⟨t, ht, e2⟩ := H.2.2.1 i
  exact ex_isShown hi hs e (by rw [e2]; exact es_nm1 (by omega)) (H.2.2.2.2.2.2.1 s hs) h1 h0
theorem ey_shownL (H : es_Log c f q cut rm str ty fr byi val ver onn call oi jn ec cl) {i : Nat} (hi : i < 2000) (h1 : es_S cut str val ver c i → post 1) (h0 : ¬ es_S cut str val ver c i → post 0) : wpY_shown post (nI c, nI f, nI q, y_drafted, y_top, y_time, cut, rm, str, ty, fr, byi, val, ver, onn, call, y_draftType, y_draftValue, y_op, y_with, y_length, y_height, y_torn, y_stack, y_position, y_cells, y_noted, y_wanted, y_formed, y_cursor, y_parked, y_where, y_often, y_due, y_many, y_found) (nI i) := by
  obtain ⟨n, hn, e⟩ := H.2.2.2.1 i
  exact ey_shown H.1.1 hi (by rw [e]; exact nI_pos' (by omega)) h1 h0
theorem ex_cutLevelBelow {e : Nat} {s : Int32} (he : e ≤ 2000) (ht : ∀ i, ¬ ty i = -1) (hp : post (es_cm cut str val s e)) : wpX_cutLevelBelow post (nI c, x_removedCount, nI f, x_drafted, x_height, x_time, x_foundAt, str, es_T cut ty, es_V cut ver val, es_W cut val, fr, onn, oi, jn, rm, ec, cl, x_draftType, x_draftValue, x_ops, x_arguments, x_programLength, x_states, x_noted, x_stack, x_metHeight, x_groupType, x_cursor, x_keptCursor, x_parked, x_rowCount, x_rowPosition, x_rowTimes, x_rowDue) s (nI e) := by
  refine loop_0 (fun n i r => wX_cutLevelBelow_5 post s (nI e) (nI c) x_removedCount (nI f) x_drafted x_height x_time x_foundAt str (es_T cut ty) (es_V cut ver val) (es_W cut val) fr onn oi jn rm ec cl x_draftType x_draftValue x_ops x_arguments x_programLength x_states x_noted x_stack x_metHeight x_groupType x_cursor x_keptCursor x_parked x_rowCount x_rowPosition x_rowTimes x_rowDue n r (nI i)) (fun i r => r = es_cm cut str val s i) e _ rfl ?_ ?_
  · intro n r hr
    subst hr
    exact br_t (nI_le (Nat.le_refl e) (by omega)) hp
  · intro n i r hi hr ih
    subst hr
    refine br_f (nI_ge hi (by omega)) ⟨vp_in_nI (by omega) (by decide), ?_⟩
    rw [nI_clamp (by omega)]
    refine br_c (fun z => ⟨vp_in_nI (by omega) (by decide), br_c (fun w => ⟨vp_in_nI (by omega) (by decide), br_c (fun y => ?_) (fun y => ⟨vp_in_nI (by omega) (by decide), ?_⟩)⟩) (fun w => ?_)⟩) (fun z => ?_)
    · rw [es_V1 ((es_Tc (ht i)).mp w)] at y
      refine nm_r (nI_1 _) (ih _ ?_)
      rw [es_cm_s, if_neg (fun t => es_ltirr (es_ltle t.2.2 y))]
    · have hcut := (es_Tc (ht i)).mp w
      rw [es_V1 hcut] at y ⊢
      refine nm_e (nm_r (nI_1 _) (ih _ ?_))
      rw [es_cm_s, if_pos ⟨hcut, z, es_nle y⟩]
    · refine nm_r (nI_1 _) (ih _ ?_)
      rw [es_cm_s, if_neg (fun t => w ((es_Tc (ht i)).mpr t.1))]
    · refine nm_r (nI_1 _) (ih _ ?_)
      rw [es_cm_s, if_neg (fun t => z t.2.1)]
end
