section
/-! read, next, found, total -/
variable {x_records x_removedCount x_flushed x_drafted x_height x_time x_foundAt : Int32} {x_recordStream x_recordType x_recordVersion x_recordValue x_originProjection x_originPosition x_originInstruction x_joined x_removed x_eventCount x_cutLevel x_draftType x_draftValue x_ops x_arguments x_programLength x_states x_noted x_stack x_metHeight x_groupType x_cursor x_keptCursor x_parked x_rowCount x_rowPosition x_rowTimes x_rowDue : Nat → Int32} {y_count y_flushed y_calls y_drafted y_top y_time : Int32} {y_isCut y_removed y_stream y_type y_from y_by y_value y_version y_on y_call y_draftType y_draftValue y_op y_with y_length y_height y_torn y_stack y_position y_cells y_noted y_wanted y_formed y_cursor y_parked y_where y_often y_due y_many y_found : Nat → Int32} {c f q : Nat} {cut rm str ty fr byi val ver onn call oi jn ec cl : Nat → Int32} {d : Nat} {L : Nat → Nat}
theorem ey_show {post : Int32 → SY → Prop} {a : Nat} (ha : a < 2000)
    (hp : ∀ fd, fd 0 = str a → fd 1 = ver a → fd 2 = ty a → fd 3 = val a → fd 4 = fr a → fd 5 = onn a → post (nI a) (nI c, nI f, nI q, y_drafted, y_top, y_time, cut, rm, str, ty, fr, byi, val, ver, onn, call, y_draftType, y_draftValue, y_op, y_with, y_length, y_height, y_torn, y_stack, y_position, y_cells, y_noted, y_wanted, y_formed, y_cursor, y_parked, y_where, y_often, y_due, y_many, fd)) : wpY_show post (nI c, nI f, nI q, y_drafted, y_top, y_time, cut, rm, str, ty, fr, byi, val, ver, onn, call, y_draftType, y_draftValue, y_op, y_with, y_length, y_height, y_torn, y_stack, y_position, y_cells, y_noted, y_wanted, y_formed, y_cursor, y_parked, y_where, y_often, y_due, y_many, y_found) (nI a) := by
  have e1 : (nI a).toNatClampNeg = a := nI_clamp (by omega)
  have hin := vp_in_nI (n := a) (N := 2000) ha (by decide)
  simp only [wpY_show, e1, hin, forall_eq, true_implies, false_implies, implies_true, not_true_eq_false, not_false_eq_true, and_true, true_and]
  exact hp _ rfl rfl rfl rfl rfl rfl
theorem ex_next (H : es_Log c f q cut rm str ty fr byi val ver onn call oi jn ec cl) {post : Int32 → SX → Prop} {i0 : Nat} (h0 : i0 < 2 ^ 31)
    (hF : ∀ a, i0 ≤ a → a < c → es_S cut str val ver c a → (∀ j, i0 ≤ j → j < a → ¬ es_S cut str val ver c j) → post (nI a) (nI c, x_removedCount, nI f, x_drafted, x_height, x_time, nI a, str, es_T cut ty, es_V cut ver val, es_W cut val, fr, onn, oi, jn, rm, ec, cl, x_draftType, x_draftValue, x_ops, x_arguments, x_programLength, x_states, x_noted, x_stack, x_metHeight, x_groupType, x_cursor, x_keptCursor, x_parked, x_rowCount, x_rowPosition, x_rowTimes, x_rowDue))
    (hN : (∀ j, i0 ≤ j → j < c → ¬ es_S cut str val ver c j) → post (-4) (nI c, x_removedCount, nI f, x_drafted, x_height, x_time, x_foundAt, str, es_T cut ty, es_V cut ver val, es_W cut val, fr, onn, oi, jn, rm, ec, cl, x_draftType, x_draftValue, x_ops, x_arguments, x_programLength, x_states, x_noted, x_stack, x_metHeight, x_groupType, x_cursor, x_keptCursor, x_parked, x_rowCount, x_rowPosition, x_rowTimes, x_rowDue)) : ∃ n, wX_next_10 post (nI c) x_removedCount (nI f) x_drafted x_height x_time x_foundAt str (es_T cut ty) (es_V cut ver val) (es_W cut val) fr onn oi jn rm ec cl x_draftType x_draftValue x_ops x_arguments x_programLength x_states x_noted x_stack x_metHeight x_groupType x_cursor x_keptCursor x_parked x_rowCount x_rowPosition x_rowTimes x_rowDue n (nI i0) := by
  have hc := H.1.1
  by_cases h : c ≤ i0
  · exact ⟨1, br_t (nI_le h h0) (hN (fun j h1 h2 => by omega))⟩
  · refine pk_loop (fun n i (_ : Unit) => wX_next_10 post (nI c) x_removedCount (nI f) x_drafted x_height x_time x_foundAt str (es_T cut ty) (es_V cut ver val) (es_W cut val) fr onn oi jn rm ec cl x_draftType x_draftValue x_ops x_arguments x_programLength x_states x_noted x_stack x_metHeight x_groupType x_cursor x_keptCursor x_parked x_rowCount x_rowPosition x_rowTimes x_rowDue n (nI i)) (fun i _ => i0 ≤ i ∧ ∀ j, i0 ≤ j → j < i → ¬ es_S cut str val ver c j) c i0 () (by omega) ⟨by omega, fun j h1 h2 => by omega⟩ ?_ ?_
    · intro n _ hs
      exact br_t (nI_le (Nat.le_refl c) (by omega)) (hN hs.2)
    · intro n i _ hi hs ih
      refine br_f (nI_ge hi (by omega)) (ex_isShownL H (by omega) (fun z => br_f (by decide) (hF i hs.1 hi z hs.2)) (fun z => br_t rfl (nm_r (nI_1 _) (ih () ⟨by omega, fun j h1 h2 => ?_⟩))))
      by_cases e : j = i
      · rw [e]; exact z
      · exact hs.2 j h1 (by omega)
theorem ey_next (H : es_Log c f q cut rm str ty fr byi val ver onn call oi jn ec cl) {post : Int32 → SY → Prop} {i0 : Nat} (h0 : i0 < 2 ^ 31)
    (hF : ∀ a, i0 ≤ a → a < c → es_S cut str val ver c a → (∀ j, i0 ≤ j → j < a → ¬ es_S cut str val ver c j) → ∀ fd, fd 0 = str a → fd 1 = ver a → fd 2 = ty a → fd 3 = val a → fd 4 = fr a → fd 5 = onn a → post (nI a) (nI c, nI f, nI q, y_drafted, y_top, y_time, cut, rm, str, ty, fr, byi, val, ver, onn, call, y_draftType, y_draftValue, y_op, y_with, y_length, y_height, y_torn, y_stack, y_position, y_cells, y_noted, y_wanted, y_formed, y_cursor, y_parked, y_where, y_often, y_due, y_many, fd))
    (hN : (∀ j, i0 ≤ j → j < c → ¬ es_S cut str val ver c j) → post (-4) (nI c, nI f, nI q, y_drafted, y_top, y_time, cut, rm, str, ty, fr, byi, val, ver, onn, call, y_draftType, y_draftValue, y_op, y_with, y_length, y_height, y_torn, y_stack, y_position, y_cells, y_noted, y_wanted, y_formed, y_cursor, y_parked, y_where, y_often, y_due, y_many, y_found)) : ∃ n, wY_next_10 post (nI c) (nI f) (nI q) y_drafted y_top y_time cut rm str ty fr byi val ver onn call y_draftType y_draftValue y_op y_with y_length y_height y_torn y_stack y_position y_cells y_noted y_wanted y_formed y_cursor y_parked y_where y_often y_due y_many y_found n (nI i0) := by
  have hc := H.1.1
  by_cases h : c ≤ i0
  · exact ⟨1, br_t (nI_le h h0) (hN (fun j h1 h2 => by omega))⟩
  · refine pk_loop (fun n i (_ : Unit) => wY_next_10 post (nI c) (nI f) (nI q) y_drafted y_top y_time cut rm str ty fr byi val ver onn call y_draftType y_draftValue y_op y_with y_length y_height y_torn y_stack y_position y_cells y_noted y_wanted y_formed y_cursor y_parked y_where y_often y_due y_many y_found n (nI i)) (fun i _ => i0 ≤ i ∧ ∀ j, i0 ≤ j → j < i → ¬ es_S cut str val ver c j) c i0 () (by omega) ⟨by omega, fun j h1 h2 => by omega⟩ ?_ ?_
    · intro n _ hs
      exact br_t (nI_le (Nat.le_refl c) (by omega)) (hN hs.2)
    · intro n i _ hi hs ih
      refine br_f (nI_ge hi (by omega)) (ey_shownL H (by omega) (fun z => br_f (by decide) (ey_show (by omega) (hF i hs.1 hi z hs.2))) (fun z => br_t rfl (nm_r (nI_1 _) (ih () ⟨by omega, fun j h1 h2 => ?_⟩))))
      by_cases e : j = i
      · rw [e]; exact z
      · exact hs.2 j h1 (by omega)
theorem em_next (H : es_Log c f q cut rm str ty fr byi val ver onn call oi jn ec cl) {P : SX → SY → Prop} {WY : (Int32 → SY → Prop) → Prop} {i0 : Nat} (h0 : i0 < 2 ^ 31)
    (hW : ∀ post : Int32 → SY → Prop, (∃ n, wY_next_10 post (nI c) (nI f) (nI q) y_drafted y_top y_time cut rm str ty fr byi val ver onn call y_draftType y_draftValue y_op y_with y_length y_height y_torn y_stack y_position y_cells y_noted y_wanted y_formed y_cursor y_parked y_where y_often y_due y_many y_found n (nI i0)) → WY post)
    (hF : ∀ a fd, a < c → cut a = 0 → fd 0 = str a → fd 1 = ver a → fd 2 = ty a → fd 3 = val a → fd 4 = fr a → fd 5 = onn a → P (nI c, x_removedCount, nI f, x_drafted, x_height, x_time, nI a, str, es_T cut ty, es_V cut ver val, es_W cut val, fr, onn, oi, jn, rm, ec, cl, x_draftType, x_draftValue, x_ops, x_arguments, x_programLength, x_states, x_noted, x_stack, x_metHeight, x_groupType, x_cursor, x_keptCursor, x_parked, x_rowCount, x_rowPosition, x_rowTimes, x_rowDue) (nI c, nI f, nI q, y_drafted, y_top, y_time, cut, rm, str, ty, fr, byi, val, ver, onn, call, y_draftType, y_draftValue, y_op, y_with, y_length, y_height, y_torn, y_stack, y_position, y_cells, y_noted, y_wanted, y_formed, y_cursor, y_parked, y_where, y_often, y_due, y_many, fd))
    (hN : P (nI c, x_removedCount, nI f, x_drafted, x_height, x_time, x_foundAt, str, es_T cut ty, es_V cut ver val, es_W cut val, fr, onn, oi, jn, rm, ec, cl, x_draftType, x_draftValue, x_ops, x_arguments, x_programLength, x_states, x_noted, x_stack, x_metHeight, x_groupType, x_cursor, x_keptCursor, x_parked, x_rowCount, x_rowPosition, x_rowTimes, x_rowDue) (nI c, nI f, nI q, y_drafted, y_top, y_time, cut, rm, str, ty, fr, byi, val, ver, onn, call, y_draftType, y_draftValue, y_op, y_with, y_length, y_height, y_torn, y_stack, y_position, y_cells, y_noted, y_wanted, y_formed, y_cursor, y_parked, y_where, y_often, y_due, y_many, y_found)) : ∃ n, wX_next_10 (fun r u' => WY (fun r' v' => r' = r ∧ P u' v')) (nI c) x_removedCount (nI f) x_drafted x_height x_time x_foundAt str (es_T cut ty) (es_V cut ver val) (es_W cut val) fr onn oi jn rm ec cl x_draftType x_draftValue x_ops x_arguments x_programLength x_states x_noted x_stack x_metHeight x_groupType x_cursor x_keptCursor x_parked x_rowCount x_rowPosition x_rowTimes x_rowDue n (nI i0) := by
  refine ex_next H h0 (fun a g1 g2 g3 g4 => hW _ ?_) (fun g => hW _ ?_)
  · refine ey_next H h0 (fun b e1 e2 e3 e4 fd z0 z1 z2 z3 z4 z5 => ?_) (fun e => absurd g3 (e a g1 g2))
    have := es_fstu g3 g1 g4 e3 e1 e4
    subst this
    exact ⟨rfl, hF a fd g2 g3.1 z0 z1 z2 z3 z4 z5⟩
  · exact ey_next H h0 (fun b e1 e2 e3 e4 fd _ _ _ _ _ _ => absurd e3 (g b e1 e2)) (fun _ => ⟨rfl, hN⟩)
theorem i_vc_next {k : Nat} {u : SX} {v : SY} (I : i_Rel k u v) (hk : k + 4 ≤ 2048) (v1 : Int32) : wpX_next (fun r u' => wpY_next (fun r' v' => r' = r ∧ i_Rel (k + 4) u' v') v v1) u v1 := by
  obtain ⟨x_records, x_removedCount, x_flushed, x_drafted, x_height, x_time, x_foundAt, x_recordStream, x_recordType, x_recordVersion, x_recordValue, x_originProjection, x_originPosition, x_originInstruction, x_joined, x_removed, x_eventCount, x_cutLevel, x_draftType, x_draftValue, x_ops, x_arguments, x_programLength, x_states, x_noted, x_stack, x_metHeight, x_groupType, x_cursor, x_keptCursor, x_parked, x_rowCount, x_rowPosition, x_rowTimes, x_rowDue⟩ := u
  obtain ⟨y_count, y_flushed, y_calls, y_drafted, y_top, y_time, y_isCut, y_removed, y_stream, y_type, y_from, y_by, y_value, y_version, y_on, y_call, y_draftType, y_draftValue, y_op, y_with, y_length, y_height, y_torn, y_stack, y_position, y_cells, y_noted, y_wanted, y_formed, y_cursor, y_parked, y_where, y_often, y_due, y_many, y_found⟩ := v
  have J := i_up I
  obtain ⟨q, hq, c, f, d, L, hL, hD, hP, hS, hG, hF⟩ := I
  obtain ⟨rfl, rfl, rfl, rfl, rfl, rfl, rfl, rfl, rfl, rfl, rfl, rfl, rfl, hl⟩ := hL
  have key : ∀ a fd, a < c → y_isCut a = 0 → fd 0 = y_stream a → fd 1 = y_version a → fd 2 = y_type a → fd 3 = y_value a → fd 4 = y_from a → fd 5 = y_on a → es_RF c (nI a) (fd) y_isCut y_stream y_type y_from y_value y_version y_on := fun a fd h1 h2 h3 h4 h5 h6 h7 h8 => Or.inr ⟨a, h1, rfl, h2, h3, h4, h5, h6, h7, h8⟩
  by_cases z : 0 ≤ v1
  · obtain ⟨j, hj, rfl⟩ := nI_of (x := v1) (fun w => es_ltirr (es_lelt z w))
    refine br_t z (em_next hl (P := fun u' v' => i_Rel (k + 4) u' v') (WY := fun P => wpY_next P (nI c, nI f, nI q, y_drafted, y_top, y_time, y_isCut, y_removed, y_stream, y_type, y_from, y_by, y_value, y_version, y_on, y_call, y_draftType, y_draftValue, y_op, y_with, y_length, y_height, y_torn, y_stack, y_position, y_cells, y_noted, y_wanted, y_formed, y_cursor, y_parked, y_where, y_often, y_due, y_many, y_found) (nI j)) hj (fun post h => br_t z h) (fun a fd h1 h2 h3 h4 h5 h6 h7 h8 => ⟨q, by omega, c, f, d, L, ⟨rfl, rfl, rfl, rfl, rfl, rfl, rfl, rfl, rfl, rfl, rfl, rfl, rfl, hl⟩, hD, hP, hS, hG, key a fd h1 h2 h3 h4 h5 h6 h7 h8⟩) J)
  · refine br_f z (em_next hl (P := fun u' v' => i_Rel (k + 4) u' v') (WY := fun P => wpY_next P (nI c, nI f, nI q, y_drafted, y_top, y_time, y_isCut, y_removed, y_stream, y_type, y_from, y_by, y_value, y_version, y_on, y_call, y_draftType, y_draftValue, y_op, y_with, y_length, y_height, y_torn, y_stack, y_position, y_cells, y_noted, y_wanted, y_formed, y_cursor, y_parked, y_where, y_often, y_due, y_many, y_found) v1) (i0 := 0) (by decide) (fun post h => br_f z h) (fun a fd h1 h2 h3 h4 h5 h6 h7 h8 => ⟨q, by omega, c, f, d, L, ⟨rfl, rfl, rfl, rfl, rfl, rfl, rfl, rfl, rfl, rfl, rfl, rfl, rfl, hl⟩, hD, hP, hS, hG, key a fd h1 h2 h3 h4 h5 h6 h7 h8⟩) J)
/-! read -/
theorem ex_read (H : es_Log c f q cut rm str ty fr byi val ver onn call oi jn ec cl) {post : Int32 → SX → Prop} {s v : Int32}
    (hF : ∀ a, a < c → (es_S cut str val ver c a ∧ str a = s ∧ ver a = v) → (∀ j, 0 ≤ j → j < a → ¬ (es_S cut str val ver c j ∧ str j = s ∧ ver j = v)) → post (nI a) (nI c, x_removedCount, nI f, x_drafted, x_height, x_time, nI a, str, es_T cut ty, es_V cut ver val, es_W cut val, fr, onn, oi, jn, rm, ec, cl, x_draftType, x_draftValue, x_ops, x_arguments, x_programLength, x_states, x_noted, x_stack, x_metHeight, x_groupType, x_cursor, x_keptCursor, x_parked, x_rowCount, x_rowPosition, x_rowTimes, x_rowDue))
    (hN : (∀ j, j < c → ¬ (es_S cut str val ver c j ∧ str j = s ∧ ver j = v)) → post (-4) (nI c, x_removedCount, nI f, x_drafted, x_height, x_time, x_foundAt, str, es_T cut ty, es_V cut ver val, es_W cut val, fr, onn, oi, jn, rm, ec, cl, x_draftType, x_draftValue, x_ops, x_arguments, x_programLength, x_states, x_noted, x_stack, x_metHeight, x_groupType, x_cursor, x_keptCursor, x_parked, x_rowCount, x_rowPosition, x_rowTimes, x_rowDue)) : wpX_read post (nI c, x_removedCount, nI f, x_drafted, x_height, x_time, x_foundAt, str, es_T cut ty, es_V cut ver val, es_W cut val, fr, onn, oi, jn, rm, ec, cl, x_draftType, x_draftValue, x_ops, x_arguments, x_programLength, x_states, x_noted, x_stack, x_metHeight, x_groupType, x_cursor, x_keptCursor, x_parked, x_rowCount, x_rowPosition, x_rowTimes, x_rowDue) s v := by
  have hc := H.1.1
  refine loop_0 (fun n i (_ : Unit) => wX_read_2 post s v (nI c) x_removedCount (nI f) x_drafted x_height x_time x_foundAt str (es_T cut ty) (es_V cut ver val) (es_W cut val) fr onn oi jn rm ec cl x_draftType x_draftValue x_ops x_arguments x_programLength x_states x_noted x_stack x_metHeight x_groupType x_cursor x_keptCursor x_parked x_rowCount x_rowPosition x_rowTimes x_rowDue n (nI i)) (fun i _ => ∀ j, j < i → ¬ (es_S cut str val ver c j ∧ str j = s ∧ ver j = v)) c () (fun j h => by omega) ?_ ?_
  · intro n _ hs
    exact br_t (nI_le (Nat.le_refl c) (by omega)) (hN hs)
  · intro n i _ hi hs ih
    refine br_f (nI_ge hi (by omega)) (ex_isShownL H (by omega) (fun z => br_f (by decide) ⟨vp_in_nI (by omega) (by decide), ?_⟩) (fun z => br_t rfl (nm_r (nI_1 _) (ih () (lt_s hs (fun w => z w.1))))))
    rw [nI_clamp (by omega), es_V0 z.1]
    exact br_c (fun w => ⟨vp_in_nI (by omega) (by decide), br_c (fun y => hF i hi ⟨z, w, y⟩ (fun j _ h => hs j h)) (fun y => nm_r (nI_1 _) (ih () (lt_s hs (fun t => y t.2.2))))⟩) (fun w => nm_r (nI_1 _) (ih () (lt_s hs (fun t => w t.2.1))))
theorem ey_read (H : es_Log c f q cut rm str ty fr byi val ver onn call oi jn ec cl) {post : Int32 → SY → Prop} {s v : Int32}
    (hF : ∀ a, a < c → (es_S cut str val ver c a ∧ str a = s ∧ ver a = v) → (∀ j, 0 ≤ j → j < a → ¬ (es_S cut str val ver c j ∧ str j = s ∧ ver j = v)) → ∀ fd, fd 0 = str a → fd 1 = ver a → fd 2 = ty a → fd 3 = val a → fd 4 = fr a → fd 5 = onn a → post (nI a) (nI c, nI f, nI q, y_drafted, y_top, y_time, cut, rm, str, ty, fr, byi, val, ver, onn, call, y_draftType, y_draftValue, y_op, y_with, y_length, y_height, y_torn, y_stack, y_position, y_cells, y_noted, y_wanted, y_formed, y_cursor, y_parked, y_where, y_often, y_due, y_many, fd))
    (hN : (∀ j, j < c → ¬ (es_S cut str val ver c j ∧ str j = s ∧ ver j = v)) → post (-4) (nI c, nI f, nI q, y_drafted, y_top, y_time, cut, rm, str, ty, fr, byi, val, ver, onn, call, y_draftType, y_draftValue, y_op, y_with, y_length, y_height, y_torn, y_stack, y_position, y_cells, y_noted, y_wanted, y_formed, y_cursor, y_parked, y_where, y_often, y_due, y_many, y_found)) : wpY_read post (nI c, nI f, nI q, y_drafted, y_top, y_time, cut, rm, str, ty, fr, byi, val, ver, onn, call, y_draftType, y_draftValue, y_op, y_with, y_length, y_height, y_torn, y_stack, y_position, y_cells, y_noted, y_wanted, y_formed, y_cursor, y_parked, y_where, y_often, y_due, y_many, y_found) s v := by
  have hc := H.1.1
  refine loop_0 (fun n i (_ : Unit) => wY_read_2 post s v (nI c) (nI f) (nI q) y_drafted y_top y_time cut rm str ty fr byi val ver onn call y_draftType y_draftValue y_op y_with y_length y_height y_torn y_stack y_position y_cells y_noted y_wanted y_formed y_cursor y_parked y_where y_often y_due y_many y_found n (nI i)) (fun i _ => ∀ j, j < i → ¬ (es_S cut str val ver c j ∧ str j = s ∧ ver j = v)) c () (fun j h => by omega) ?_ ?_
  · intro n _ hs
    exact br_t (nI_le (Nat.le_refl c) (by omega)) (hN hs)
  · intro n i _ hi hs ih
    refine br_f (nI_ge hi (by omega)) ⟨vp_in_nI (by omega) (by decide), ?_⟩
    rw [nI_clamp (by omega)]
    exact br_c (fun w => ⟨vp_in_nI (by omega) (by decide), br_c (fun y => ey_shownL H (by omega) (fun z => br_f (by decide) (ey_show (by omega) (hF i hi ⟨z, w, y⟩ (fun j _ h => hs j h)))) (fun z => br_t rfl (nm_r (nI_1 _) (ih () (lt_s hs (fun t => z t.1)))))) (fun y => nm_r (nI_1 _) (ih () (lt_s hs (fun t => y t.2.2))))⟩) (fun w => nm_r (nI_1 _) (ih () (lt_s hs (fun t => w t.2.1))))
theorem i_vc_read {k : Nat} {u : SX} {v : SY} (I : i_Rel k u v) (hk : k + 4 ≤ 2048) (v1 : Int32) (v2 : Int32) : wpX_read (fun r u' => wpY_read (fun r' v' => r' = r ∧ i_Rel (k + 4) u' v') v v1 v2) u v1 v2 := by
  obtain ⟨x_records, x_removedCount, x_flushed, x_drafted, x_height, x_time, x_foundAt, x_recordStream, x_recordType, x_recordVersion, x_recordValue, x_originProjection, x_originPosition, x_originInstruction, x_joined, x_removed, x_eventCount, x_cutLevel, x_draftType, x_draftValue, x_ops, x_arguments, x_programLength, x_states, x_noted, x_stack, x_metHeight, x_groupType, x_cursor, x_keptCursor, x_parked, x_rowCount, x_rowPosition, x_rowTimes, x_rowDue⟩ := u
  obtain ⟨y_count, y_flushed, y_calls, y_drafted, y_top, y_time, y_isCut, y_removed, y_stream, y_type, y_from, y_by, y_value, y_version, y_on, y_call, y_draftType, y_draftValue, y_op, y_with, y_length, y_height, y_torn, y_stack, y_position, y_cells, y_noted, y_wanted, y_formed, y_cursor, y_parked, y_where, y_often, y_due, y_many, y_found⟩ := v
  have J := i_up I
  obtain ⟨q, hq, c, f, d, L, hL, hD, hP, hS, hG, hF⟩ := I
  obtain ⟨rfl, rfl, rfl, rfl, rfl, rfl, rfl, rfl, rfl, rfl, rfl, rfl, rfl, hl⟩ := hL
  refine ex_read hl (fun a g2 g3 g4 => ?_) (fun g => ?_)
  · refine ey_read hl (fun b e2 e3 e4 fd z0 z1 z2 z3 z4 z5 => ?_) (fun e => absurd g3 (e a g2))
    have := es_fstu g3 (Nat.zero_le a) g4 e3 (Nat.zero_le b) e4
    subst this
    exact ⟨rfl, q, by omega, c, f, d, L, ⟨rfl, rfl, rfl, rfl, rfl, rfl, rfl, rfl, rfl, rfl, rfl, rfl, rfl, hl⟩, hD, hP, hS, hG, Or.inr ⟨a, g2, rfl, g3.1.1, z0, z1, z2, z3, z4, z5⟩⟩
  · exact ey_read hl (fun b e2 e3 e4 fd _ _ _ _ _ _ => absurd e3 (g b e2)) (fun _ => ⟨rfl, J⟩)
/-! total -/
theorem em_total (H : es_Log c f q cut rm str ty fr byi val ver onn call oi jn ec cl) {t last : Int32} : ∀ m i, i + m = c → ∀ x : Int64, ∃ r : Int64,
    (∀ post : Int64 → Prop, post r → wX_total_26 post t last (nI c) x_removedCount (nI f) x_drafted x_height x_time x_foundAt str (es_T cut ty) (es_V cut ver val) (es_W cut val) fr onn oi jn rm ec cl x_draftType x_draftValue x_ops x_arguments x_programLength x_states x_noted x_stack x_metHeight x_groupType x_cursor x_keptCursor x_parked x_rowCount x_rowPosition x_rowTimes x_rowDue (m + 1) x (nI i)) ∧ (∀ post : Int64 → Prop, post r → wY_total_25 post t last (nI c) (nI f) (nI q) y_drafted y_top y_time cut rm str ty fr byi val ver onn call y_draftType y_draftValue y_op y_with y_length y_height y_torn y_stack y_position y_cells y_noted y_wanted y_formed y_cursor y_parked y_where y_often y_due y_many y_found (m + 1) x (nI i)) := by
  have hc := H.1.1
  intro m
  induction m with
  | zero =>
    intro i hi x
    exact ⟨x, fun post hp => br_t (nI_le (by omega) (by omega)) hp, fun post hp => br_t (nI_le (by omega) (by omega)) hp⟩
  | succ m ih =>
    intro i hi x
    have hci : ¬ nI c ≤ nI i := nI_ge (by omega) (by omega)
    by_cases hl : last < nI i
    · exact ⟨x, fun post hp => br_f hci (br_t hl hp), fun post hp => br_f hci (br_t hl hp)⟩
    · have hin : vp_in (nI i) 2000 := vp_in_nI (by omega) (by decide)
      obtain ⟨r0, a0, b0⟩ := ih (i + 1) (by omega) x
      by_cases hS : es_S cut str val ver c i
      · obtain ⟨r1, a1, b1⟩ := ih (i + 1) (by omega) (x + (val i).toInt64)
        have eW : es_W cut val (nI i).toNatClampNeg = val i := by rw [nI_clamp (by omega), es_W0 hS.1]
        have eT : es_T cut ty (nI i).toNatClampNeg = ty i := by rw [nI_clamp (by omega), es_T0 hS.1]
        have eV : val (nI i).toNatClampNeg = val i := by rw [nI_clamp (by omega)]
        have eY : ty (nI i).toNatClampNeg = ty i := by rw [nI_clamp (by omega)]
        by_cases h8 : t = 8
        · refine ⟨r1, fun post hp => br_f hci (br_f hl (ex_isShownL H (by omega) (fun _ => br_f (by decide) (br_t h8 ⟨hin, nm_r (by rw [eW]) (nm_r (nI_1 _) (a1 post hp))⟩)) (fun z => absurd hS z))), fun post hp => br_f hci (br_f hl (ey_shownL H (by omega) (fun _ => br_f (by decide) (br_t h8 ⟨hin, nm_r (by rw [eV]) (nm_r (nI_1 _) (b1 post hp))⟩)) (fun z => absurd hS z)))⟩
        · by_cases ht : ty i = t
          · refine ⟨r1, fun post hp => br_f hci (br_f hl (ex_isShownL H (by omega) (fun _ => br_f (by decide) (br_f h8 ⟨hin, br_t (eT.trans ht) ⟨hin, nm_r (by rw [eW]) (nm_r (nI_1 _) (a1 post hp))⟩⟩)) (fun z => absurd hS z))), fun post hp => br_f hci (br_f hl (ey_shownL H (by omega) (fun _ => br_f (by decide) (br_f h8 ⟨hin, br_t (eY.trans ht) ⟨hin, nm_r (by rw [eV]) (nm_r (nI_1 _) (b1 post hp))⟩⟩)) (fun z => absurd hS z)))⟩
          · exact ⟨r0, fun post hp => br_f hci (br_f hl (ex_isShownL H (by omega) (fun _ => br_f (by decide) (br_f h8 ⟨hin, br_f (fun z => ht (eT.symm.trans z)) (nm_r (nI_1 _) (a0 post hp))⟩)) (fun z => absurd hS z))), fun post hp => br_f hci (br_f hl (ey_shownL H (by omega) (fun _ => br_f (by decide) (br_f h8 ⟨hin, br_f (fun z => ht (eY.symm.trans z)) (nm_r (nI_1 _) (b0 post hp))⟩)) (fun z => absurd hS z)))⟩
      · exact ⟨r0, fun post hp => br_f hci (br_f hl (ex_isShownL H (by omega) (fun z => absurd z hS) (fun _ => br_t rfl (nm_r (nI_1 _) (a0 post hp))))), fun post hp => br_f hci (br_f hl (ey_shownL H (by omega) (fun z => absurd z hS) (fun _ => br_t rfl (nm_r (nI_1 _) (b0 post hp)))))⟩
theorem em_total0 (H : es_Log c f q cut rm str ty fr byi val ver onn call oi jn ec cl) {t last : Int32} {i : Nat} (h : i < 2 ^ 31) : ∃ r : Int64,
    (∀ post : Int64 → Prop, post r → ∃ n, wX_total_26 post t last (nI c) x_removedCount (nI f) x_drafted x_height x_time x_foundAt str (es_T cut ty) (es_V cut ver val) (es_W cut val) fr onn oi jn rm ec cl x_draftType x_draftValue x_ops x_arguments x_programLength x_states x_noted x_stack x_metHeight x_groupType x_cursor x_keptCursor x_parked x_rowCount x_rowPosition x_rowTimes x_rowDue n 0 (nI i)) ∧ (∀ post : Int64 → Prop, post r → ∃ n, wY_total_25 post t last (nI c) (nI f) (nI q) y_drafted y_top y_time cut rm str ty fr byi val ver onn call y_draftType y_draftValue y_op y_with y_length y_height y_torn y_stack y_position y_cells y_noted y_wanted y_formed y_cursor y_parked y_where y_often y_due y_many y_found n 0 (nI i)) := by
  by_cases z : i ≤ c
  · obtain ⟨r, a, b⟩ := em_total H (t := t) (last := last) (c - i) i (by omega) 0
    exact ⟨r, fun post hp => ⟨_, a post hp⟩, fun post hp => ⟨_, b post hp⟩⟩
  · exact ⟨0, fun post hp => ⟨1, br_t (nI_le (by omega) h) hp⟩, fun post hp => ⟨1, br_t (nI_le (by omega) h) hp⟩⟩
theorem i_vc_total {k : Nat} {u : SX} {v : SY} (I : i_Rel k u v) (hk : k + 4 ≤ 2048) (v1 : Int32) (v2 : Int32) (v3 : Int32) : wpX_total (fun r => wpY_total (fun r' => r' = r ∧ i_Rel (k + 4) u v) v v1 v2 v3) u v1 v2 v3 := by
  obtain ⟨x_records, x_removedCount, x_flushed, x_drafted, x_height, x_time, x_foundAt, x_recordStream, x_recordType, x_recordVersion, x_recordValue, x_originProjection, x_originPosition, x_originInstruction, x_joined, x_removed, x_eventCount, x_cutLevel, x_draftType, x_draftValue, x_ops, x_arguments, x_programLength, x_states, x_noted, x_stack, x_metHeight, x_groupType, x_cursor, x_keptCursor, x_parked, x_rowCount, x_rowPosition, x_rowTimes, x_rowDue⟩ := u
  obtain ⟨y_count, y_flushed, y_calls, y_drafted, y_top, y_time, y_isCut, y_removed, y_stream, y_type, y_from, y_by, y_value, y_version, y_on, y_call, y_draftType, y_draftValue, y_op, y_with, y_length, y_height, y_torn, y_stack, y_position, y_cells, y_noted, y_wanted, y_formed, y_cursor, y_parked, y_where, y_often, y_due, y_many, y_found⟩ := v
  have J := i_up I
  obtain ⟨q, hq, c, f, d, L, hL, hD, hP, hS, hG, hF⟩ := I
  obtain ⟨rfl, rfl, rfl, rfl, rfl, rfl, rfl, rfl, rfl, rfl, rfl, rfl, rfl, hl⟩ := hL
  dsimp only [wpX_total, wpY_total]
  rcases es_rg v1 9 (by decide) with h | ⟨t, ht, rfl⟩
  · by_cases z : v1 < 0
    · exact br_t z (ey_outT 9 rfl h (br_f (by decide) ⟨rfl, J⟩))
    · exact br_f z (br_f (fun w => es_ltirr (es_ltle (es_lelt w (by decide)) (h.resolve_left z))) (ey_outT 9 rfl h (br_f (by decide) ⟨rfl, J⟩)))
  · by_cases z : 0 ≤ v2
    · obtain ⟨j, hj, rfl⟩ := nI_of (x := v2) (fun w => es_ltirr (es_lelt z w))
      obtain ⟨r, a, b⟩ := em_total0 hl (t := nI t) (last := v3) hj
      exact br_f (nI_pos (by omega)) (br_t (nI_le (b := 8) (by omega) (by decide)) (br_t z (a _ (ey_outF 9 t rfl (by decide) ht (br_t rfl (br_t z (b _ ⟨rfl, J⟩)))))))
    · obtain ⟨r, a, b⟩ := em_total0 hl (t := nI t) (last := v3) (i := 0) (by decide)
      exact br_f (nI_pos (by omega)) (br_t (nI_le (b := 8) (by omega) (by decide)) (br_f z (a _ (ey_outF 9 t rfl (by decide) ht (br_t rfl (br_f z (b _ ⟨rfl, J⟩)))))))
end
