section
/-! a record is added -/
variable {x_records x_removedCount x_flushed x_drafted x_height x_time x_foundAt : Int32} {x_recordStream x_recordType x_recordVersion x_recordValue x_originProjection x_originPosition x_originInstruction x_joined x_removed x_eventCount x_cutLevel x_draftType x_draftValue x_ops x_arguments x_programLength x_states x_noted x_stack x_metHeight x_groupType x_cursor x_keptCursor x_parked x_rowCount x_rowPosition x_rowTimes x_rowDue : Nat → Int32} {y_count y_flushed y_calls y_drafted y_top y_time : Int32} {y_isCut y_removed y_stream y_type y_from y_by y_value y_version y_on y_call y_draftType y_draftValue y_op y_with y_length y_height y_torn y_stack y_position y_cells y_noted y_wanted y_formed y_cursor y_parked y_where y_often y_due y_many y_found : Nat → Int32} {c f q : Nat} {cut rm str ty fr byi val ver onn call oi jn ec cl : Nat → Int32}
theorem ex_addE {s t : Nat} {vv v : Int32} {pst : SX → Prop} (hc : c < 2000) (hs : s < 5) (ht : t < 8)
    (hp : pst (nI (c + 1), x_removedCount, nI f, x_drafted, x_height, x_time, x_foundAt, upd str c (nI s), upd (es_T cut ty) c (nI t), upd (es_V cut ver val) c vv, upd (es_W cut val) c v, upd fr c (-1), upd onn c (-1), upd oi c (-1), upd jn c 0, rm, upd ec s (ec s + 1), cl, x_draftType, x_draftValue, x_ops, x_arguments, x_programLength, x_states, x_noted, x_stack, x_metHeight, x_groupType, x_cursor, x_keptCursor, x_parked, x_rowCount, x_rowPosition, x_rowTimes, x_rowDue)) :
    wpX_addRecord pst (nI c, x_removedCount, nI f, x_drafted, x_height, x_time, x_foundAt, str, es_T cut ty, es_V cut ver val, es_W cut val, fr, onn, oi, jn, rm, ec, cl, x_draftType, x_draftValue, x_ops, x_arguments, x_programLength, x_states, x_noted, x_stack, x_metHeight, x_groupType, x_cursor, x_keptCursor, x_parked, x_rowCount, x_rowPosition, x_rowTimes, x_rowDue) (nI s) (nI t) vv v := by
  have e1 : (nI c).toNatClampNeg = c := nI_clamp (by omega)
  have e2 : (nI s).toNatClampNeg = s := nI_clamp (by omega)
  have hin := vp_in_nI (n := c) (N := 2000) hc (by decide)
  have hi2 := vp_in_nI (n := s) (N := 5) hs (by decide)
  have h3 : ¬ nI t = -1 := es_nm1 (by omega)
  simp only [wpX_addRecord, e1, e2, hin, hi2, h3, es_nb0, nI_1, forall_eq, true_implies, false_implies, implies_true, not_true_eq_false, not_false_eq_true, and_true, true_and]
  exact hp
theorem ex_addC {s : Nat} {vv : Int32} {pst : SX → Prop} (hc : c < 2000) (hs : s < 5)
    (hp : ∀ cl', (∀ s', cl' s' = if s' = s ∧ cl s' < vv then vv else cl s') → pst (nI (c + 1), x_removedCount, nI f, x_drafted, x_height, x_time, x_foundAt, upd str c (nI s), upd (es_T cut ty) c (-1), upd (es_V cut ver val) c vv, upd (es_W cut val) c 0, upd fr c (-1), upd onn c (-1), upd oi c (-1), upd jn c 0, rm, ec, cl', x_draftType, x_draftValue, x_ops, x_arguments, x_programLength, x_states, x_noted, x_stack, x_metHeight, x_groupType, x_cursor, x_keptCursor, x_parked, x_rowCount, x_rowPosition, x_rowTimes, x_rowDue)) :
    wpX_addRecord pst (nI c, x_removedCount, nI f, x_drafted, x_height, x_time, x_foundAt, str, es_T cut ty, es_V cut ver val, es_W cut val, fr, onn, oi, jn, rm, ec, cl, x_draftType, x_draftValue, x_ops, x_arguments, x_programLength, x_states, x_noted, x_stack, x_metHeight, x_groupType, x_cursor, x_keptCursor, x_parked, x_rowCount, x_rowPosition, x_rowTimes, x_rowDue) (nI s) (-1) vv 0 := by
  have e1 : (nI c).toNatClampNeg = c := nI_clamp (by omega)
  have e2 : (nI s).toNatClampNeg = s := nI_clamp (by omega)
  have hin := vp_in_nI (n := c) (N := 2000) hc (by decide)
  have hi2 := vp_in_nI (n := s) (N := 5) hs (by decide)
  simp only [wpX_addRecord, e1, e2, hin, hi2, es_nb0, nI_1, forall_eq, true_implies, false_implies, implies_true, not_true_eq_false, not_false_eq_true, and_true, true_and]
  refine br_c (fun z => hp cl (fun s' => ?_)) (fun z => hp (upd cl s vv) (fun s' => ?_))
  · by_cases e : s' = s
    · subst e; rw [if_neg (fun w => es_ltirr (es_ltle w.2 z))]
    · rw [if_neg (fun w => e w.1)]
  · by_cases e : s' = s
    · subst e; rw [pk_us, if_pos ⟨rfl, es_nle z⟩]
    · rw [pk_un e, if_neg (fun w => e w.1)]
theorem ey_add {s t : Nat} {b v : Int32} {pst : Int32 → SY → Prop} (hc : c < 2000) (hs : s < 5) (ht : t < 8) (hb : vp_nar .boolean b = b) (hr : rm c = 0)
    (hp : pst (nI c) (nI (c + 1), nI f, nI q, y_drafted, y_top, y_time, upd cut c b, rm, upd str c (nI s), upd ty c (nI t), upd fr c (-1), byi, upd val c v, upd ver c (nI (es_ev cut str (nI s) c)), upd onn c (-1), upd call c (nI q), y_draftType, y_draftValue, y_op, y_with, y_length, y_height, y_torn, y_stack, y_position, y_cells, y_noted, y_wanted, y_formed, y_cursor, y_parked, y_where, y_often, y_due, y_many, y_found)) :
    wpY_add pst (nI c, nI f, nI q, y_drafted, y_top, y_time, cut, rm, str, ty, fr, byi, val, ver, onn, call, y_draftType, y_draftValue, y_op, y_with, y_length, y_height, y_torn, y_stack, y_position, y_cells, y_noted, y_wanted, y_formed, y_cursor, y_parked, y_where, y_often, y_due, y_many, y_found) b (nI s) (nI t) v := by
  have e1 : (nI c).toNatClampNeg = c := nI_clamp (by omega)
  have hin := vp_in_nI (n := c) (N := 2000) hc (by decide)
  have h1 := es_nar s (by omega)
  have h2 := es_nar t (by omega)
  simp only [wpY_add, e1, hin, hb, h1.1, h1.2, h2.1, h2.2, es_nb0, es_nbm, nI_1, es_upd0 hr, forall_eq, true_implies, false_implies, implies_true, not_true_eq_false, not_false_eq_true, and_true, true_and]
  refine ey_events (by omega) ?_
  rw [es_ev_c c (fun i hi => ⟨pk_un (by omega), pk_un (by omega)⟩)]
  exact hp
end
