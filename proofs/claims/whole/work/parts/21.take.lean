section
/-! take -/
variable {x_records x_removedCount x_flushed x_drafted x_height x_time x_foundAt : Int32} {x_recordStream x_recordType x_recordVersion x_recordValue x_originProjection x_originPosition x_originInstruction x_joined x_removed x_eventCount x_cutLevel x_draftType x_draftValue x_ops x_arguments x_programLength x_states x_noted x_stack x_metHeight x_groupType x_cursor x_keptCursor x_parked x_rowCount x_rowPosition x_rowTimes x_rowDue : Nat → Int32} {y_count y_flushed y_calls y_drafted y_top y_time : Int32} {y_isCut y_removed y_stream y_type y_from y_by y_value y_version y_on y_call y_draftType y_draftValue y_op y_with y_length y_height y_torn y_stack y_position y_cells y_noted y_wanted y_formed y_cursor y_parked y_where y_often y_due y_many y_found : Nat → Int32} {c f q : Nat} {cut rm str ty fr byi val ver onn call oi jn ec cl : Nat → Int32} {d : Nat} {L : Nat → Nat} {g nt nw nk u k : Nat}
def es_cnw (u : SX) (g : Nat) : Int32 := match u with
  | (x_records, x_removedCount, x_flushed, x_drafted, x_height, x_time, x_foundAt, x_recordStream, x_recordType, x_recordVersion, x_recordValue, x_originProjection, x_originPosition, x_originInstruction, x_joined, x_removed, x_eventCount, x_cutLevel, x_draftType, x_draftValue, x_ops, x_arguments, x_programLength, x_states, x_noted, x_stack, x_metHeight, x_groupType, x_cursor, x_keptCursor, x_parked, x_rowCount, x_rowPosition, x_rowTimes, x_rowDue) => x_rowCount (3 * g + 1)
def es_gty (u : SX) (g : Nat) : Int32 := match u with
  | (x_records, x_removedCount, x_flushed, x_drafted, x_height, x_time, x_foundAt, x_recordStream, x_recordType, x_recordVersion, x_recordValue, x_originProjection, x_originPosition, x_originInstruction, x_joined, x_removed, x_eventCount, x_cutLevel, x_draftType, x_draftValue, x_ops, x_arguments, x_programLength, x_states, x_noted, x_stack, x_metHeight, x_groupType, x_cursor, x_keptCursor, x_parked, x_rowCount, x_rowPosition, x_rowTimes, x_rowDue) => x_groupType g
theorem es_RG_delW {i : Nat} (H : es_RG c f x_groupType x_cursor x_keptCursor x_parked x_rowCount x_rowPosition x_rowTimes x_rowDue x_time y_formed y_wanted y_cursor y_parked y_many y_where y_often y_due y_time) (hg : g < 2) (hz : y_formed g = 0 → nt = 0) (hi : i < nw)
    (h : es_Grp c f g nt nw nk u k x_cursor x_keptCursor x_rowCount x_rowPosition x_rowTimes x_rowDue y_cursor y_many y_where y_often y_due) :
    es_RG c f x_groupType x_cursor x_keptCursor x_parked (upd x_rowCount (3 * g + 1) (nI (nw - 1))) (es_del x_rowPosition (18 * g + 6 + i) (18 * g + 6 + (nw - 1))) (es_del x_rowTimes (18 * g + 6 + i) (18 * g + 6 + (nw - 1))) (es_del x_rowDue (18 * g + 6 + i) (18 * g + 6 + (nw - 1))) x_time y_formed y_wanted y_cursor y_parked (upd y_many (2 + g) (nI (nw - 1))) (es_del y_where (16 + 8 * g + i) (16 + 8 * g + (nw - 1))) (es_del y_often (16 + 8 * g + i) (16 + 8 * g + (nw - 1))) (es_del y_due (16 + 8 * g + i) (16 + 8 * g + (nw - 1))) y_time := by
  have hn := h.1.2.2.1
  have hp := H.1
  subst hp
  refine es_RG_set H hg hz (es_Grp_dw h hi hg) (fun j hj => ?_) (fun j hj => ?_) (fun j a b d => ?_) (fun j a b d => ?_) (fun j _ => ⟨rfl, rfl⟩) (fun j _ _ => rfl)
  · rw [es_del_o (by omega), es_del_o (by omega), es_del_o (by omega)]
    exact ⟨rfl, rfl, rfl⟩
  · rw [pk_un (by omega)]
  · rw [pk_un b]
  · rw [es_del_o (by omega), es_del_o (by omega), es_del_o (by omega)]
    exact ⟨rfl, rfl, rfl⟩
/-- an event comes to the TAKEN ones, and the cursor goes on -/
theorem es_RG_at {a u' : Nat} {tm dv : Int32} (H : es_RG c f x_groupType x_cursor x_keptCursor x_parked x_rowCount x_rowPosition x_rowTimes x_rowDue x_time y_formed y_wanted y_cursor y_parked y_many y_where y_often y_due y_time) (hg : g < 2) (hz : ¬ y_formed g = 0)
    (h : es_Grp c f g nt nw nk u k x_cursor x_keptCursor x_rowCount x_rowPosition x_rowTimes x_rowDue y_cursor y_many y_where y_often y_due)
    (hn : nt + nw < 6) (hu : u ≤ u') (hc : u' ≤ c) (ha : a < u') (d1 : ∀ i, i < nt → ¬ x_rowPosition (18 * g + i) = nI a) (d2 : ∀ i, i < nw → ¬ x_rowPosition (18 * g + 6 + i) = nI a) :
    es_RG c f x_groupType (upd x_cursor g (nI u')) x_keptCursor x_parked (upd x_rowCount (3 * g) (nI (nt + 1))) (upd x_rowPosition (18 * g + nt) (nI a)) (upd x_rowTimes (18 * g + nt) tm) (upd x_rowDue (18 * g + nt) dv) x_time y_formed y_wanted (upd y_cursor g (nI u')) y_parked (upd y_many g (nI (nt + 1))) (upd y_where (8 * g + nt) (nI a)) (upd y_often (8 * g + nt) tm) (upd y_due (8 * g + nt) dv) y_time := by
  have hp := H.1
  subst hp
  refine es_RG_set H hg (fun z => absurd z hz) (es_Grp_at (es_Grp_cu h hu hc hg) hn hg ha d1 d2) (fun j hj => ?_) (fun j hj => ?_) (fun j a b d => ?_) (fun j a b d => ?_) (fun j e => ⟨pk_un e, rfl⟩) (fun j e _ => pk_un e)
  · rw [pk_un (by omega), pk_un (by omega), pk_un (by omega)]
    exact ⟨rfl, rfl, rfl⟩
  · rw [pk_un (by omega)]
  · rw [pk_un a]
  · rw [pk_un (by omega), pk_un (by omega), pk_un (by omega)]
    exact ⟨rfl, rfl, rfl⟩
theorem es_RG_cu {u' : Nat} (H : es_RG c f x_groupType x_cursor x_keptCursor x_parked x_rowCount x_rowPosition x_rowTimes x_rowDue x_time y_formed y_wanted y_cursor y_parked y_many y_where y_often y_due y_time) (hg : g < 2) (hz : y_formed g = 0 → nt = 0)
    (h : es_Grp c f g nt nw nk u k x_cursor x_keptCursor x_rowCount x_rowPosition x_rowTimes x_rowDue y_cursor y_many y_where y_often y_due)
    (hu : u ≤ u') (hc : u' ≤ c) : es_RG c f x_groupType (upd x_cursor g (nI u')) x_keptCursor x_parked x_rowCount x_rowPosition x_rowTimes x_rowDue x_time y_formed y_wanted (upd y_cursor g (nI u')) y_parked y_many y_where y_often y_due y_time := by
  have hp := H.1
  subst hp
  exact es_RG_set H hg hz (es_Grp_cu h hu hc hg) (fun j hj => ⟨rfl, rfl, rfl⟩) (fun j hj => rfl) (fun j a b d => rfl) (fun j a b d => ⟨rfl, rfl, rfl⟩) (fun j e => ⟨pk_un e, rfl⟩) (fun j e _ => pk_un e)
theorem ex_take107 {post : Int32 → SX → Prop} {a : Nat} {tm : Int32} (hg : g < 2) (ha : a < 2 ^ 31) (hn : x_rowCount (3 * g) = nI nt) (h6 : nt < 6)
    (hp : post (nI a) (x_records, x_removedCount, x_flushed, x_drafted, x_height, x_time, x_foundAt, x_recordStream, x_recordType, x_recordVersion, x_recordValue, x_originProjection, x_originPosition, x_originInstruction, x_joined, x_removed, x_eventCount, x_cutLevel, x_draftType, x_draftValue, x_ops, x_arguments, x_programLength, x_states, x_noted, x_stack, x_metHeight, x_groupType, x_cursor, x_keptCursor, x_parked, upd x_rowCount (3 * g) (nI (nt + 1)), upd x_rowPosition (18 * g + nt) (nI a), upd x_rowTimes (18 * g + nt) tm, upd x_rowDue (18 * g + nt) (x_time + 10))) :
    wX_take_107 post (nI (3 * g)) (nI a) tm x_records x_removedCount x_flushed x_drafted x_height x_time x_foundAt x_recordStream x_recordType x_recordVersion x_recordValue x_originProjection x_originPosition x_originInstruction x_joined x_removed x_eventCount x_cutLevel x_draftType x_draftValue x_ops x_arguments x_programLength x_states x_noted x_stack x_metHeight x_groupType x_cursor x_keptCursor x_parked x_rowCount x_rowPosition x_rowTimes x_rowDue := by
  have e1 : (nI (3 * g)).toNatClampNeg = 3 * g := nI_clamp (by omega)
  have v1 : vp_in (nI (3 * g)) 6 := vp_in_nI (by omega) (by decide)
  refine br_f (es_nm4 ha) ⟨v1, ?_⟩
  rw [e1, hn]
  refine ex_insert (b := 18 * g) (by omega) (by omega) hn (Nat.le_refl nt) h6 ?_
  have ei : nI (3 * g) * 6 + nI (nt + 1) - 1 = nI (18 * g + nt) := by
    rw [es_6, nI_add, es_s1 (by omega)]; congr 1; omega
  refine ⟨v1, ?_⟩
  rw [pk_us, ei, nI_clamp (by omega), es_ins_0 (Nat.le_refl _), es_ins_0 (Nat.le_refl _)]
  exact ⟨vp_in_nI (by omega) (by decide), nm_e hp⟩
theorem ex_isShownQ {post : Int32 → Prop} {a : Nat} (H : es_RL c f q x_records x_removedCount x_flushed x_recordStream x_recordType x_recordVersion x_recordValue x_originProjection x_originPosition x_originInstruction x_joined x_removed x_eventCount x_cutLevel y_count y_flushed y_calls y_isCut y_removed y_stream y_type y_from y_by y_value y_version y_on y_call) (ha : a < 2000) (h1 : es_S y_isCut y_stream y_value y_version c a → post 1) (h0 : ¬ es_S y_isCut y_stream y_value y_version c a → post 0) : wpX_isShown post (x_records, x_removedCount, x_flushed, x_drafted, x_height, x_time, x_foundAt, x_recordStream, x_recordType, x_recordVersion, x_recordValue, x_originProjection, x_originPosition, x_originInstruction, x_joined, x_removed, x_eventCount, x_cutLevel, x_draftType, x_draftValue, x_ops, x_arguments, x_programLength, x_states, x_noted, x_stack, x_metHeight, x_groupType, x_cursor, x_keptCursor, x_parked, x_rowCount, x_rowPosition, x_rowTimes, x_rowDue) (nI a) := by
  obtain ⟨rfl, rfl, rfl, rfl, rfl, rfl, rfl, rfl, rfl, rfl, rfl, rfl, rfl, hl⟩ := H
  exact ex_isShownL hl ha h1 h0
theorem ey_shownQ {post : Int32 → Prop} {a : Nat} (H : es_RL c f q x_records x_removedCount x_flushed x_recordStream x_recordType x_recordVersion x_recordValue x_originProjection x_originPosition x_originInstruction x_joined x_removed x_eventCount x_cutLevel y_count y_flushed y_calls y_isCut y_removed y_stream y_type y_from y_by y_value y_version y_on y_call) (ha : a < 2000) (h1 : es_S y_isCut y_stream y_value y_version c a → post 1) (h0 : ¬ es_S y_isCut y_stream y_value y_version c a → post 0) : wpY_shown post (y_count, y_flushed, y_calls, y_drafted, y_top, y_time, y_isCut, y_removed, y_stream, y_type, y_from, y_by, y_value, y_version, y_on, y_call, y_draftType, y_draftValue, y_op, y_with, y_length, y_height, y_torn, y_stack, y_position, y_cells, y_noted, y_wanted, y_formed, y_cursor, y_parked, y_where, y_often, y_due, y_many, y_found) (nI a) := by
  obtain ⟨rfl, rfl, rfl, rfl, rfl, rfl, rfl, rfl, rfl, rfl, rfl, rfl, rfl, hl⟩ := H
  exact ey_shownL hl ha h1 h0
/-- the hidden ones at the front of the WAITING row go -/
theorem em_pass (hg : g < 2) : ∀ m j, j + m = 6 → ∀ (u : SX) (v : SY) (nw : Nat), es_Q c f d L q u v → es_cnw u g = nI nw → nw ≤ m → ∃ (u' : SX) (v' : SY), es_Q c f d L q u' v' ∧ es_cnt u' g = es_cnt u g ∧ es_gty u' g = es_gty u g ∧
      (∀ post : SX → Prop, post u' → match u with | (x_records, x_removedCount, x_flushed, x_drafted, x_height, x_time, x_foundAt, x_recordStream, x_recordType, x_recordVersion, x_recordValue, x_originProjection, x_originPosition, x_originInstruction, x_joined, x_removed, x_eventCount, x_cutLevel, x_draftType, x_draftValue, x_ops, x_arguments, x_programLength, x_states, x_noted, x_stack, x_metHeight, x_groupType, x_cursor, x_keptCursor, x_parked, x_rowCount, x_rowPosition, x_rowTimes, x_rowDue) => wX_passHidden_2 post (nI (3 * g + 1)) (m + 1) (nI j) x_records x_removedCount x_flushed x_drafted x_height x_time x_foundAt x_recordStream x_recordType x_recordVersion x_recordValue x_originProjection x_originPosition x_originInstruction x_joined x_removed x_eventCount x_cutLevel x_draftType x_draftValue x_ops x_arguments x_programLength x_states x_noted x_stack x_metHeight x_groupType x_cursor x_keptCursor x_parked x_rowCount x_rowPosition x_rowTimes x_rowDue) ∧
      (∀ post : Int32 → SY → Prop, (match v' with | (y_count, y_flushed, y_calls, y_drafted, y_top, y_time, y_isCut, y_removed, y_stream, y_type, y_from, y_by, y_value, y_version, y_on, y_call, y_draftType, y_draftValue, y_op, y_with, y_length, y_height, y_torn, y_stack, y_position, y_cells, y_noted, y_wanted, y_formed, y_cursor, y_parked, y_where, y_often, y_due, y_many, y_found) => wY_take_79 post (nI g) (nI (16 + 8 * g)) y_count y_flushed y_calls y_drafted y_top y_time y_isCut y_removed y_stream y_type y_from y_by y_value y_version y_on y_call y_draftType y_draftValue y_op y_with y_length y_height y_torn y_stack y_position y_cells y_noted y_wanted y_formed y_cursor y_parked y_where y_often y_due y_many y_found) → match v with | (y_count, y_flushed, y_calls, y_drafted, y_top, y_time, y_isCut, y_removed, y_stream, y_type, y_from, y_by, y_value, y_version, y_on, y_call, y_draftType, y_draftValue, y_op, y_with, y_length, y_height, y_torn, y_stack, y_position, y_cells, y_noted, y_wanted, y_formed, y_cursor, y_parked, y_where, y_often, y_due, y_many, y_found) => wY_take_44 post (nI g) (nI (16 + 8 * g)) (m + 1) y_count y_flushed y_calls y_drafted y_top y_time y_isCut y_removed y_stream y_type y_from y_by y_value y_version y_on y_call y_draftType y_draftValue y_op y_with y_length y_height y_torn y_stack y_position y_cells y_noted y_wanted y_formed y_cursor y_parked y_where y_often y_due y_many y_found) := by
  intro m
  induction m with
  | zero =>
    intro j hj u v nw hQ hcnt hnw
    obtain ⟨x_records, x_removedCount, x_flushed, x_drafted, x_height, x_time, x_foundAt, x_recordStream, x_recordType, x_recordVersion, x_recordValue, x_originProjection, x_originPosition, x_originInstruction, x_joined, x_removed, x_eventCount, x_cutLevel, x_draftType, x_draftValue, x_ops, x_arguments, x_programLength, x_states, x_noted, x_stack, x_metHeight, x_groupType, x_cursor, x_keptCursor, x_parked, x_rowCount, x_rowPosition, x_rowTimes, x_rowDue⟩ := u
    obtain ⟨y_count, y_flushed, y_calls, y_drafted, y_top, y_time, y_isCut, y_removed, y_stream, y_type, y_from, y_by, y_value, y_version, y_on, y_call, y_draftType, y_draftValue, y_op, y_with, y_length, y_height, y_torn, y_stack, y_position, y_cells, y_noted, y_wanted, y_formed, y_cursor, y_parked, y_where, y_often, y_due, y_many, y_found⟩ := v
    obtain ⟨hfm, nt, nw', nk, w, l, hz, hgr⟩ := hQ.2.2.2.2.1.2.2 g hg
    have e1 : x_rowCount (3 * g + 1) = nI nw := hcnt
    have e0 : nw' = 0 := by
      rw [hgr.2.2.1.2.2.1] at e1
      have := es_inj e1 (by have := hgr.1.2.2.1; omega) (by omega)
      omega
    refine ⟨_, _, hQ, rfl, rfl, fun post hp => br_t ?_ hp, fun post hp => ?_⟩
    · exact nI_le (a := 6) (by omega) (by omega)
    · show wY_take_44 post (nI g) (nI (16 + 8 * g)) (0 + 1) y_count y_flushed y_calls y_drafted y_top y_time y_isCut y_removed y_stream y_type y_from y_by y_value y_version y_on y_call y_draftType y_draftValue y_op y_with y_length y_height y_torn y_stack y_position y_cells y_noted y_wanted y_formed y_cursor y_parked y_where y_often y_due y_many y_found
      refine ⟨by rw [es_2g]; exact vp_in_nI (by omega) (by decide), br_t ?_ hp⟩
      rw [es_2g, nI_clamp (by omega), hgr.2.2.1.2.2.2.1, e0]
      exact Int32.le_refl 0
  | succ m ih =>
    intro j hj u v nw hQ hcnt hnw
    obtain ⟨x_records, x_removedCount, x_flushed, x_drafted, x_height, x_time, x_foundAt, x_recordStream, x_recordType, x_recordVersion, x_recordValue, x_originProjection, x_originPosition, x_originInstruction, x_joined, x_removed, x_eventCount, x_cutLevel, x_draftType, x_draftValue, x_ops, x_arguments, x_programLength, x_states, x_noted, x_stack, x_metHeight, x_groupType, x_cursor, x_keptCursor, x_parked, x_rowCount, x_rowPosition, x_rowTimes, x_rowDue⟩ := u
    obtain ⟨y_count, y_flushed, y_calls, y_drafted, y_top, y_time, y_isCut, y_removed, y_stream, y_type, y_from, y_by, y_value, y_version, y_on, y_call, y_draftType, y_draftValue, y_op, y_with, y_length, y_height, y_torn, y_stack, y_position, y_cells, y_noted, y_wanted, y_formed, y_cursor, y_parked, y_where, y_often, y_due, y_many, y_found⟩ := v
    have hQ0 := hQ
    obtain ⟨hL, hD, hP, hS, hG, hF⟩ := hQ
    obtain ⟨hfm, nt, nw', nk, w, l, hz, hgr⟩ := hG.2.2 g hg
    have e1 : x_rowCount (3 * g + 1) = nI nw := hcnt
    have e0 : nw' = nw := by
      rw [hgr.2.2.1.2.2.1] at e1
      exact es_inj e1 (by have := hgr.1.2.2.1; omega) (by omega)
    subst e0
    have hn6 := hgr.1.2.2.1
    have hj6 : ¬ (6 : Int32) ≤ nI j := nI_ge (b := 6) (by omega) (by decide)
    have vr : vp_in (nI (3 * g + 1)) 6 := vp_in_nI (by omega) (by decide)
    have cr : (nI (3 * g + 1)).toNatClampNeg = 3 * g + 1 := nI_clamp (by omega)
    have vy : vp_in (2 + nI g) 6 := by rw [es_2g]; exact vp_in_nI (by omega) (by decide)
    have cy : (2 + nI g).toNatClampNeg = 2 + g := by rw [es_2g, nI_clamp (by omega)]
    have hmy := hgr.2.2.1.2.2.2.1
    by_cases n0 : nw' = 0
    · refine ⟨_, _, hQ0, rfl, rfl, fun post hp => br_f hj6 ⟨vr, br_t ?_ hp⟩, fun post hp => ?_⟩
      · rw [cr, e1, n0]; rfl
      · show wY_take_44 post (nI g) (nI (16 + 8 * g)) (m + 1 + 1) y_count y_flushed y_calls y_drafted y_top y_time y_isCut y_removed y_stream y_type y_from y_by y_value y_version y_on y_call y_draftType y_draftValue y_op y_with y_length y_height y_torn y_stack y_position y_cells y_noted y_wanted y_formed y_cursor y_parked y_where y_often y_due y_many y_found
        refine ⟨vy, br_t ?_ hp⟩
        rw [cy, hmy, n0]
        exact Int32.le_refl 0
    · have xn : ¬ x_rowCount (nI (3 * g + 1)).toNatClampNeg = 0 := by
        rw [cr, e1]; exact fun z => n0 ((es_eq0 (by omega)).mp z)
      have yn : ¬ y_many (2 + nI g).toNatClampNeg ≤ 0 := by
        rw [cy, hmy]; exact nI_nle (by omega) (by omega)
      have cw : nI (3 * g + 1) * 6 = nI (18 * g + 6) := by rw [es_6]; congr 1; omega
      have vw : vp_in (nI (3 * g + 1) * 6) 36 := by rw [cw]; exact vp_in_nI (by omega) (by decide)
      have dw : (nI (3 * g + 1) * 6).toNatClampNeg = 18 * g + 6 := by rw [cw, nI_clamp (by omega)]
      have v16 : vp_in (nI (16 + 8 * g)) 64 := vp_in_nI (by omega) (by decide)
      have c16 : (nI (16 + 8 * g)).toNatClampNeg = 16 + 8 * g := nI_clamp (by omega)
      obtain ⟨⟨a, ha, ea⟩, hwh, hof⟩ := hgr.2.2.2.2.2.1 0 (by omega)
      rw [Nat.add_zero] at ea hwh hof
      rw [Nat.add_zero] at hwh hof
      have hac : a < 2000 := by have := hgr.1.1; have := hL.2.2.2.2.2.2.2.2.2.2.2.2.2.1.1; omega
      by_cases hS' : es_S y_isCut y_stream y_value y_version c a
      · refine ⟨_, _, hQ0, rfl, rfl, fun post hp => br_f hj6 ⟨vr, br_f xn ⟨vw, ?_⟩⟩, fun post hp => ?_⟩
        · rw [dw, ea]
          exact ex_isShownQ hL hac (fun _ => br_f (by decide) hp) (fun z => absurd hS' z)
        · show wY_take_44 post (nI g) (nI (16 + 8 * g)) (m + 1 + 1) y_count y_flushed y_calls y_drafted y_top y_time y_isCut y_removed y_stream y_type y_from y_by y_value y_version y_on y_call y_draftType y_draftValue y_op y_with y_length y_height y_torn y_stack y_position y_cells y_noted y_wanted y_formed y_cursor y_parked y_where y_often y_due y_many y_found
          refine ⟨vy, br_f yn ⟨v16, ?_⟩⟩
          rw [c16, hwh, ea]
          exact ey_shownQ hL hac (fun _ => br_f (by decide) hp) (fun z => absurd hS' z)
      · have hG' := es_RG_delW hG hg hz (i := 0) (by omega) hgr
        obtain ⟨u', v', hQ', hc1, hc2, hX, hY⟩ := ih (j + 1) (by omega) (x_records, x_removedCount, x_flushed, x_drafted, x_height, x_time, x_foundAt, x_recordStream, x_recordType, x_recordVersion, x_recordValue, x_originProjection, x_originPosition, x_originInstruction, x_joined, x_removed, x_eventCount, x_cutLevel, x_draftType, x_draftValue, x_ops, x_arguments, x_programLength, x_states, x_noted, x_stack, x_metHeight, x_groupType, x_cursor, x_keptCursor, x_parked, upd x_rowCount (3 * g + 1) (nI (nw' - 1)), es_del x_rowPosition (18 * g + 6 + 0) (18 * g + 6 + (nw' - 1)), es_del x_rowTimes (18 * g + 6 + 0) (18 * g + 6 + (nw' - 1)), es_del x_rowDue (18 * g + 6 + 0) (18 * g + 6 + (nw' - 1))) (y_count, y_flushed, y_calls, y_drafted, y_top, y_time, y_isCut, y_removed, y_stream, y_type, y_from, y_by, y_value, y_version, y_on, y_call, y_draftType, y_draftValue, y_op, y_with, y_length, y_height, y_torn, y_stack, y_position, y_cells, y_noted, y_wanted, y_formed, y_cursor, y_parked, es_del y_where (16 + 8 * g + 0) (16 + 8 * g + (nw' - 1)), es_del y_often (16 + 8 * g + 0) (16 + 8 * g + (nw' - 1)), es_del y_due (16 + 8 * g + 0) (16 + 8 * g + (nw' - 1)), upd y_many (2 + g) (nI (nw' - 1)), y_found) (nw' - 1) ⟨hL, hD, hP, hS, hG', hF⟩ (by show upd x_rowCount (3 * g + 1) (nI (nw' - 1)) (3 * g + 1) = _; rw [pk_us]) (by omega)
        refine ⟨u', v', hQ', hc1.trans ?_, (show es_gty u' g = x_groupType g from hc2), fun post hp => br_f hj6 ⟨vr, br_f xn ⟨vw, ?_⟩⟩, fun post hp => ?_⟩
        · show upd x_rowCount (3 * g + 1) (nI (nw' - 1)) (3 * g) = x_rowCount (3 * g)
          rw [pk_un (by omega)]
        · rw [dw, ea]
          exact ex_isShownQ hL hac (fun z => absurd z hS') (fun _ => br_t rfl (ex_remove (b := 18 * g + 6) (k := 0) (by omega) (by omega) e1 (by omega) (by omega) (nm_r (nI_1 _) (hX post hp))))
        · show wY_take_44 post (nI g) (nI (16 + 8 * g)) (m + 1 + 1) y_count y_flushed y_calls y_drafted y_top y_time y_isCut y_removed y_stream y_type y_from y_by y_value y_version y_on y_call y_draftType y_draftValue y_op y_with y_length y_height y_torn y_stack y_position y_cells y_noted y_wanted y_formed y_cursor y_parked y_where y_often y_due y_many y_found
          refine ⟨vy, br_f yn ⟨v16, ?_⟩⟩
          rw [c16, hwh, ea]
          refine ey_shownQ hL hac (fun z => absurd z hS') (fun _ => br_t rfl ?_)
          rw [es_2g]
          exact ey_strike (b := 16 + 8 * g) (k := 0) (by omega) (by omega) hmy (by omega) (by omega) (hY post hp)
/-- an event that the group wants -/
def es_wt (cut str val ver ty : Nat → Int32) (c t a : Nat) : Prop := es_S cut str val ver c a ∧ (t = 8 ∨ ty a = nI t)
theorem ex_log (H : es_Log c f q cut rm str ty fr byi val ver onn call oi jn ec cl) {post : Int32 → SX → Prop} {t : Nat} (hg : g < 2) (ht : t ≤ 8) (hgt : x_groupType g = nI t) (hcu : x_cursor g = nI u) (hu : u ≤ c)
    (hF : ∀ a, u ≤ a → a < c → es_wt cut str val ver ty c t a → (∀ j, u ≤ j → j < a → ¬ es_wt cut str val ver ty c t j) → post (nI a) (nI c, x_removedCount, nI f, x_drafted, x_height, x_time, x_foundAt, str, es_T cut ty, es_V cut ver val, es_W cut val, fr, onn, oi, jn, rm, ec, cl, x_draftType, x_draftValue, x_ops, x_arguments, x_programLength, x_states, x_noted, x_stack, x_metHeight, x_groupType, upd x_cursor g (nI (a + 1)), x_keptCursor, x_parked, x_rowCount, x_rowPosition, x_rowTimes, x_rowDue))
    (hN : (∀ j, u ≤ j → j < c → ¬ es_wt cut str val ver ty c t j) → post (-4) (nI c, x_removedCount, nI f, x_drafted, x_height, x_time, x_foundAt, str, es_T cut ty, es_V cut ver val, es_W cut val, fr, onn, oi, jn, rm, ec, cl, x_draftType, x_draftValue, x_ops, x_arguments, x_programLength, x_states, x_noted, x_stack, x_metHeight, x_groupType, upd x_cursor g (nI c), x_keptCursor, x_parked, x_rowCount, x_rowPosition, x_rowTimes, x_rowDue)) : wpX_takeFromLog post (nI c, x_removedCount, nI f, x_drafted, x_height, x_time, x_foundAt, str, es_T cut ty, es_V cut ver val, es_W cut val, fr, onn, oi, jn, rm, ec, cl, x_draftType, x_draftValue, x_ops, x_arguments, x_programLength, x_states, x_noted, x_stack, x_metHeight, x_groupType, x_cursor, x_keptCursor, x_parked, x_rowCount, x_rowPosition, x_rowTimes, x_rowDue) (nI g) := by
  have hc := H.1.1
  have cg : (nI g).toNatClampNeg = g := nI_clamp (by omega)
  have vg : vp_in (nI g) 2 := vp_in_nI hg (by decide)
  refine ⟨vg, nm_r (e' := nI u) (by rw [cg, hcu]) ?_⟩
  refine pk_loop (fun n i (_ : Unit) => wX_takeFromLog_7 post (nI g) (nI c) x_removedCount (nI f) x_drafted x_height x_time x_foundAt str (es_T cut ty) (es_V cut ver val) (es_W cut val) fr onn oi jn rm ec cl x_draftType x_draftValue x_ops x_arguments x_programLength x_states x_noted x_stack x_metHeight x_groupType x_cursor x_keptCursor x_parked x_rowCount x_rowPosition x_rowTimes x_rowDue n (nI i)) (fun i _ => u ≤ i ∧ ∀ j, u ≤ j → j < i → ¬ es_wt cut str val ver ty c t j) c u () hu ⟨Nat.le_refl u, fun j h1 h2 => by omega⟩ ?_ ?_
  · intro n _ hs
    exact br_t (nI_le (Nat.le_refl c) (by omega)) ⟨vg, nm_r (e' := upd x_cursor g (nI c)) (by rw [cg]) (hN hs.2)⟩
  · intro n i _ hi hs ih
    have nx : ¬ es_wt cut str val ver ty c t i → (u ≤ i + 1 ∧ ∀ j, u ≤ j → j < i + 1 → ¬ es_wt cut str val ver ty c t j) := fun z => ⟨by omega, fun j h1 h2 => by
      by_cases e : j = i
      · rw [e]; exact z
      · exact hs.2 j h1 (by omega)⟩
    have fin : es_wt cut str val ver ty c t i → wX_takeFromLog_49 post (nI g) (nI i) (nI c) x_removedCount (nI f) x_drafted x_height x_time x_foundAt str (es_T cut ty) (es_V cut ver val) (es_W cut val) fr onn oi jn rm ec cl x_draftType x_draftValue x_ops x_arguments x_programLength x_states x_noted x_stack x_metHeight x_groupType x_cursor x_keptCursor x_parked x_rowCount x_rowPosition x_rowTimes x_rowDue := fun z =>
      ⟨vg, nm_r (e' := upd x_cursor g (nI (i + 1))) (by rw [cg, nI_1]) (hF i hs.1 hi z hs.2)⟩
    refine br_f (nI_ge hi (by omega)) (ex_isShownL H (by omega) (fun z => br_f (by decide) ⟨vg, ?_⟩) (fun z => br_t rfl (nm_r (nI_1 _) (ih () (nx (fun w => z w.1))))))
    rw [cg, hgt, nI_clamp (by omega), es_T0 z.1]
    by_cases t8 : t = 8
    · exact br_t (by rw [t8]; rfl) (fin ⟨z, Or.inl t8⟩)
    · refine br_f (fun w => t8 (es_inj (b := 8) w (by omega) (by decide))) ⟨vp_in_nI (by omega) (by decide), vg, br_c (fun w => fin ⟨z, Or.inr w⟩) (fun w => nm_r (nI_1 _) (ih () (nx (fun y => ?_))))⟩
      rcases y.2 with y | y
      · exact t8 y
      · exact w y
theorem ey_log (H : es_Log c f q cut rm str ty fr byi val ver onn call oi jn ec cl) {post : Int32 → SY → Prop} {t : Nat} (hg : g < 2) (ht : t ≤ 8) (hwa : y_wanted g = nI t) (hcu : y_cursor g = nI u) (hu : u ≤ c)
    (hF : ∀ a, u ≤ a → a < c → es_wt cut str val ver ty c t a → (∀ j, u ≤ j → j < a → ¬ es_wt cut str val ver ty c t j) → wY_take_183 post (nI g) (nI a) (nI c) (nI f) (nI q) y_drafted y_top y_time cut rm str ty fr byi val ver onn call y_draftType y_draftValue y_op y_with y_length y_height y_torn y_stack y_position y_cells y_noted y_wanted y_formed (upd y_cursor g (nI (a + 1))) y_parked y_where y_often y_due y_many y_found)
    (hN : (∀ j, u ≤ j → j < c → ¬ es_wt cut str val ver ty c t j) → post (-4) (nI c, nI f, nI q, y_drafted, y_top, y_time, cut, rm, str, ty, fr, byi, val, ver, onn, call, y_draftType, y_draftValue, y_op, y_with, y_length, y_height, y_torn, y_stack, y_position, y_cells, y_noted, y_wanted, y_formed, upd y_cursor g (nI c), y_parked, y_where, y_often, y_due, y_many, y_found)) : ∃ n, wY_take_124 post (nI g) (nI c) (nI f) (nI q) y_drafted y_top y_time n cut rm str ty fr byi val ver onn call y_draftType y_draftValue y_op y_with y_length y_height y_torn y_stack y_position y_cells y_noted y_wanted y_formed y_cursor y_parked y_where y_often y_due y_many y_found := by
  have hc := H.1.1
  have cg : (nI g).toNatClampNeg = g := nI_clamp (by omega)
  have vg : vp_in (nI g) 2 := vp_in_nI hg (by decide)
  have vg4 : vp_in (nI g) 4 := vp_in_nI (by omega) (by decide)
  have e0 : upd y_cursor g (nI u) = y_cursor := es_upd0 hcu
  have key : ∃ n, wY_take_124 post (nI g) (nI c) (nI f) (nI q) y_drafted y_top y_time n cut rm str ty fr byi val ver onn call y_draftType y_draftValue y_op y_with y_length y_height y_torn y_stack y_position y_cells y_noted y_wanted y_formed (upd y_cursor g (nI u)) y_parked y_where y_often y_due y_many y_found := by
    refine pk_loop (fun n i (_ : Unit) => wY_take_124 post (nI g) (nI c) (nI f) (nI q) y_drafted y_top y_time n cut rm str ty fr byi val ver onn call y_draftType y_draftValue y_op y_with y_length y_height y_torn y_stack y_position y_cells y_noted y_wanted y_formed (upd y_cursor g (nI i)) y_parked y_where y_often y_due y_many y_found) (fun i _ => u ≤ i ∧ ∀ j, u ≤ j → j < i → ¬ es_wt cut str val ver ty c t j) c u () hu ⟨Nat.le_refl u, fun j h1 h2 => by omega⟩ ?_ ?_
    · intro n _ hs
      refine ⟨vg4, br_t ?_ (hN hs.2)⟩
      rw [cg, pk_us]; exact nI_le (Nat.le_refl c) (by omega)
    · intro n i _ hi hs ih
      have nx : ¬ es_wt cut str val ver ty c t i → (u ≤ i + 1 ∧ ∀ j, u ≤ j → j < i + 1 → ¬ es_wt cut str val ver ty c t j) := fun z => ⟨by omega, fun j h1 h2 => by
        by_cases e : j = i
        · rw [e]; exact z
        · exact hs.2 j h1 (by omega)⟩
      have fin : es_wt cut str val ver ty c t i → wY_take_183 post (nI g) (nI i) (nI c) (nI f) (nI q) y_drafted y_top y_time cut rm str ty fr byi val ver onn call y_draftType y_draftValue y_op y_with y_length y_height y_torn y_stack y_position y_cells y_noted y_wanted y_formed (upd y_cursor g (nI (i + 1))) y_parked y_where y_often y_due y_many y_found := fun z => hF i hs.1 hi z hs.2
      refine ⟨vg4, br_f (by rw [cg, pk_us]; exact nI_ge hi (by omega)) ⟨vg4, vg4, nm_r (e' := upd y_cursor g (nI (i + 1))) (by rw [cg, pk_us, nI_1, es_uu]) (nm_r (e' := nI i) (by rw [cg, pk_us]) ?_)⟩⟩
      refine ey_shownL H (by omega) (fun z => br_f (by decide) ⟨vg, ?_⟩) (fun z => br_t rfl (ih () (nx (fun w => z w.1))))
      rw [cg, hwa, nI_clamp (by omega)]
      by_cases t8 : t = 8
      · exact br_t (by rw [t8]; rfl) (fin ⟨z, Or.inl t8⟩)
      · refine br_f (fun w => t8 (es_inj (b := 8) w (by omega) (by decide))) ⟨vp_in_nI (by omega) (by decide), vg, br_c (fun w => fin ⟨z, Or.inr w⟩) (fun w => ih () (nx (fun y => ?_)))⟩
        rcases y.2 with y | y
        · exact t8 y
        · exact w y
  rw [e0] at key
  exact key
end
