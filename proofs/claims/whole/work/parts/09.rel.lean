section
/-! the relation -/
def es_RL (c f q : Nat) (x_records x_removedCount x_flushed : Int32) (x_recordStream x_recordType x_recordVersion x_recordValue x_originProjection x_originPosition x_originInstruction x_joined x_removed x_eventCount x_cutLevel : Nat → Int32) (y_count y_flushed y_calls : Int32) (y_isCut y_removed y_stream y_type y_from y_by y_value y_version y_on y_call : Nat → Int32) : Prop :=
  x_records = nI c ∧ y_count = nI c ∧ x_flushed = nI f ∧ y_flushed = nI f ∧ y_calls = nI q ∧ x_removedCount = nI (es_rc y_removed c) ∧
  y_stream = x_recordStream ∧ x_recordType = es_T y_isCut y_type ∧ x_recordVersion = es_V y_isCut y_version y_value ∧ x_recordValue = es_W y_isCut y_value ∧
  y_from = x_originProjection ∧ y_on = x_originPosition ∧ y_removed = x_removed ∧
  es_Log c f q y_isCut y_removed y_stream y_type y_from y_by y_value y_version y_on y_call x_originInstruction x_joined x_eventCount x_cutLevel
def es_RD (d : Nat) (x_drafted : Int32) (x_draftType x_draftValue : Nat → Int32) (y_drafted : Int32) (y_draftType y_draftValue : Nat → Int32) : Prop :=
  x_drafted = nI d ∧ y_drafted = nI d ∧ d ≤ 4 ∧ y_draftType = x_draftType ∧ y_draftValue = x_draftValue ∧ ∀ i, ∃ t, t < 8 ∧ y_draftType i = nI t
def es_RP (L : Nat → Nat) (x_programLength x_ops x_arguments y_length y_op y_with : Nat → Int32) : Prop :=
  y_length = x_programLength ∧ (∀ p, y_length p = nI (L p) ∧ L p ≤ 14) ∧
  (∀ p i, p < 4 → i < L p → x_ops (14 * p + i) = y_op (14 * p + i) ∧ x_arguments (14 * p + i) = y_with (14 * p + i)) ∧
  (∀ i, i < L 3 → ∃ o, o < 14 ∧ y_op (42 + i) = nI o) ∧
  (∀ p, p < 3 → es_OK (L p) (fun i => y_op (14 * p + i)) (fun i => y_with (14 * p + i)))
def es_RS (c f : Nat) (L : Nat → Nat) (x_states x_noted y_position y_cells y_noted : Nat → Int32) : Prop := es_St c f L x_states x_noted y_position y_cells y_noted
def es_Frm (g : Nat) (gt fo wa : Nat → Int32) : Prop := (fo g = 0 ∧ gt g = -1) ∨ (¬ fo g = 0 ∧ ∃ t, t ≤ 8 ∧ gt g = nI t ∧ wa g = nI t)
def es_RG (c f : Nat) (x_groupType x_cursor x_keptCursor x_parked x_rowCount x_rowPosition x_rowTimes x_rowDue : Nat → Int32) (x_time : Int32) (y_formed y_wanted y_cursor y_parked y_many y_where y_often y_due : Nat → Int32) (y_time : Int32) : Prop :=
  y_parked = x_parked ∧ y_time = x_time ∧ ∀ g, g < 2 → es_Frm g x_groupType y_formed y_wanted ∧
    ∃ nt nw nk u k, (y_formed g = 0 → nt = 0) ∧ es_Grp c f g nt nw nk u k x_cursor x_keptCursor x_rowCount x_rowPosition x_rowTimes x_rowDue y_cursor y_many y_where y_often y_due
def es_RF (c : Nat) (x_foundAt : Int32) (y_found y_isCut y_stream y_type y_from y_value y_version y_on : Nat → Int32) : Prop :=
  (x_foundAt = -4 ∧ ∀ w, w < 6 → y_found w = 0) ∨
  (∃ a, a < c ∧ x_foundAt = nI a ∧ y_isCut a = 0 ∧ y_found 0 = y_stream a ∧ y_found 1 = y_version a ∧ y_found 2 = y_type a ∧ y_found 3 = y_value a ∧ y_found 4 = y_from a ∧ y_found 5 = y_on a)
def es_Q (c f d : Nat) (L : Nat → Nat) (q : Nat) (u : SX) (v : SY) : Prop := match u with
  | (x_records, x_removedCount, x_flushed, x_drafted, x_height, x_time, x_foundAt, x_recordStream, x_recordType, x_recordVersion, x_recordValue, x_originProjection, x_originPosition, x_originInstruction, x_joined, x_removed, x_eventCount, x_cutLevel, x_draftType, x_draftValue, x_ops, x_arguments, x_programLength, x_states, x_noted, x_stack, x_metHeight, x_groupType, x_cursor, x_keptCursor, x_parked, x_rowCount, x_rowPosition, x_rowTimes, x_rowDue) => match v with
    | (y_count, y_flushed, y_calls, y_drafted, y_top, y_time, y_isCut, y_removed, y_stream, y_type, y_from, y_by, y_value, y_version, y_on, y_call, y_draftType, y_draftValue, y_op, y_with, y_length, y_height, y_torn, y_stack, y_position, y_cells, y_noted, y_wanted, y_formed, y_cursor, y_parked, y_where, y_often, y_due, y_many, y_found) => es_RL c f q x_records x_removedCount x_flushed x_recordStream x_recordType x_recordVersion x_recordValue x_originProjection x_originPosition x_originInstruction x_joined x_removed x_eventCount x_cutLevel y_count y_flushed y_calls y_isCut y_removed y_stream y_type y_from y_by y_value y_version y_on y_call ∧ es_RD d x_drafted x_draftType x_draftValue y_drafted y_draftType y_draftValue ∧ es_RP L x_programLength x_ops x_arguments y_length y_op y_with ∧ es_RS c f L x_states x_noted y_position y_cells y_noted ∧ es_RG c f x_groupType x_cursor x_keptCursor x_parked x_rowCount x_rowPosition x_rowTimes x_rowDue x_time y_formed y_wanted y_cursor y_parked y_many y_where y_often y_due y_time ∧ es_RF c x_foundAt y_found y_isCut y_stream y_type y_from y_value y_version y_on
def es_R (q : Nat) (u : SX) (v : SY) : Prop := ∃ (c f d : Nat) (L : Nat → Nat), es_Q c f d L q u v
/-- the relation at the head of a turn whose first cell is k -/
def i_Rel (k : Nat) (u : SX) (v : SY) : Prop := ∃ q, q ≤ 500 * k ∧ es_R q u v
theorem i_up {k : Nat} {u : SX} {v : SY} (h : i_Rel k u v) : i_Rel (k + 4) u v := by
  obtain ⟨q, hq, h⟩ := h
  exact ⟨q, by omega, h⟩
variable {x_records x_removedCount x_flushed x_drafted x_height x_time x_foundAt : Int32} {x_recordStream x_recordType x_recordVersion x_recordValue x_originProjection x_originPosition x_originInstruction x_joined x_removed x_eventCount x_cutLevel x_draftType x_draftValue x_ops x_arguments x_programLength x_states x_noted x_stack x_metHeight x_groupType x_cursor x_keptCursor x_parked x_rowCount x_rowPosition x_rowTimes x_rowDue : Nat → Int32} {y_count y_flushed y_calls y_drafted y_top y_time : Int32} {y_isCut y_removed y_stream y_type y_from y_by y_value y_version y_on y_call y_draftType y_draftValue y_op y_with y_length y_height y_torn y_stack y_position y_cells y_noted y_wanted y_formed y_cursor y_parked y_where y_often y_due y_many y_found : Nat → Int32} {c f q : Nat} {cut rm str ty fr byi val ver onn call oi jn ec cl : Nat → Int32} {d : Nat} {L : Nat → Nat}
theorem es_RG_m {c' f' : Nat} (H : es_RG c f x_groupType x_cursor x_keptCursor x_parked x_rowCount x_rowPosition x_rowTimes x_rowDue x_time y_formed y_wanted y_cursor y_parked y_many y_where y_often y_due y_time) (hc : c ≤ c') (hf : f ≤ f') : es_RG c' f' x_groupType x_cursor x_keptCursor x_parked x_rowCount x_rowPosition x_rowTimes x_rowDue x_time y_formed y_wanted y_cursor y_parked y_many y_where y_often y_due y_time := by
  obtain ⟨h1, h2, h3⟩ := H
  refine ⟨h1, h2, fun g hg => ?_⟩
  obtain ⟨a, nt, nw, nk, u, k, b, e⟩ := h3 g hg
  have e0 := e.1
  exact ⟨a, nt, nw, nk, u, k, b, es_Grp_m e (by omega) (by omega)⟩
theorem es_RF_add {b s t fo v w o : Int32} (H : es_RF c x_foundAt y_found y_isCut y_stream y_type y_from y_value y_version y_on) : es_RF (c + 1) x_foundAt y_found (upd y_isCut c b) (upd y_stream c s) (upd y_type c t) (upd y_from c fo) (upd y_value c v) (upd y_version c w) (upd y_on c o) := by
  rcases H with H | ⟨a, h1, h2, h3⟩
  · exact Or.inl H
  · refine Or.inr ⟨a, by omega, h2, ?_⟩
    rw [pk_un (by omega), pk_un (by omega), pk_un (by omega), pk_un (by omega), pk_un (by omega), pk_un (by omega), pk_un (by omega)]
    exact h3
/-- one record more, on both sides -/
theorem es_Q_add {s t : Nat} {b v fo ov bv ev jv : Int32} {byi' ec' cl' : Nat → Int32}
    (H : es_Q c f d L q (nI c, x_removedCount, nI f, x_drafted, x_height, x_time, x_foundAt, str, es_T cut ty, es_V cut ver val, es_W cut val, fr, onn, oi, jn, rm, ec, cl, x_draftType, x_draftValue, x_ops, x_arguments, x_programLength, x_states, x_noted, x_stack, x_metHeight, x_groupType, x_cursor, x_keptCursor, x_parked, x_rowCount, x_rowPosition, x_rowTimes, x_rowDue) (nI c, nI f, nI q, y_drafted, y_top, y_time, cut, rm, str, ty, fr, byi, val, ver, onn, call, y_draftType, y_draftValue, y_op, y_with, y_length, y_height, y_torn, y_stack, y_position, y_cells, y_noted, y_wanted, y_formed, y_cursor, y_parked, y_where, y_often, y_due, y_many, y_found))
    (hc : c < 2000) (hr : c - es_rc rm c < 40) (hs : s < 5) (ht : t < 8)
    (hb : ∀ i, i < c → byi' i = byi i) (hbv : byi' c = bv)
    (ho : fo = -1 ∨ (b = 0 ∧ ev = bv ∧ ∃ o, o < c ∧ ov = nI o))
    (hj : 0 < c → (jv = 0 ↔ ¬ call (c - 1) = nI q))
    (hec : ∀ s', s' < 5 → ec' s' = if b = 0 ∧ s' = s then ec s' + 1 else ec s')
    (hcl : ∀ s', s' < 5 → cl' s' = if ¬ b = 0 ∧ s' = s ∧ cl s' < v then v else cl s') :
    es_Q (c + 1) f d L q
      (nI (c + 1), x_removedCount, nI f, x_drafted, x_height, x_time, x_foundAt, upd str c (nI s), upd (es_T cut ty) c (if b = 0 then nI t else -1), upd (es_V cut ver val) c (if b = 0 then nI (es_ev cut str (nI s) c) else v), upd (es_W cut val) c (if b = 0 then v else 0), upd fr c fo, upd onn c ov, upd oi c ev, upd jn c jv, rm, ec', cl', x_draftType, x_draftValue, x_ops, x_arguments, x_programLength, x_states, x_noted, x_stack, x_metHeight, x_groupType, x_cursor, x_keptCursor, x_parked, x_rowCount, x_rowPosition, x_rowTimes, x_rowDue)
      (nI (c + 1), nI f, nI q, y_drafted, y_top, y_time, upd cut c b, rm, upd str c (nI s), upd ty c (nI t), upd fr c fo, byi', upd val c v, upd ver c (nI (es_ev cut str (nI s) c)), upd onn c ov, upd call c (nI q), y_draftType, y_draftValue, y_op, y_with, y_length, y_height, y_torn, y_stack, y_position, y_cells, y_noted, y_wanted, y_formed, y_cursor, y_parked, y_where, y_often, y_due, y_many, y_found) := by
  obtain ⟨⟨_, _, _, _, _, hR, _, _, _, _, _, _, _, hL⟩, hD, hP, hS, hG, hF⟩ := H
  have h4 : rm c = 0 := (hL.2.2.2.2.1 c).2 hL.1.2.1
  refine ⟨⟨rfl, rfl, rfl, rfl, rfl, ?_, rfl, es_Tu.symm, es_Vu.symm, es_Wu.symm, rfl, rfl, rfl, es_Log_add hL hc hr hs ht (Nat.le_refl q) hb hbv ho hj hec hcl⟩, hD, hP, es_St_m hS (by omega), es_RG_m hG (by omega) (by omega), es_RF_add hF⟩
  rw [es_rc_add h4]
  exact hR
end
