section
/-! answer, tick -/
variable {x_records x_removedCount x_flushed x_drafted x_height x_time x_foundAt : Int32} {x_recordStream x_recordType x_recordVersion x_recordValue x_originProjection x_originPosition x_originInstruction x_joined x_removed x_eventCount x_cutLevel x_draftType x_draftValue x_ops x_arguments x_programLength x_states x_noted x_stack x_metHeight x_groupType x_cursor x_keptCursor x_parked x_rowCount x_rowPosition x_rowTimes x_rowDue : Nat → Int32} {y_count y_flushed y_calls y_drafted y_top y_time : Int32} {y_isCut y_removed y_stream y_type y_from y_by y_value y_version y_on y_call y_draftType y_draftValue y_op y_with y_length y_height y_torn y_stack y_position y_cells y_noted y_wanted y_formed y_cursor y_parked y_where y_often y_due y_many y_found : Nat → Int32} {c f q : Nat} {cut rm str ty fr byi val ver onn call oi jn ec cl : Nat → Int32} {d : Nat} {L : Nat → Nat} {g nt nw nk u k : Nat}
def es_cnt (u : SX) (g : Nat) : Int32 := match u with
  | (x_records, x_removedCount, x_flushed, x_drafted, x_height, x_time, x_foundAt, x_recordStream, x_recordType, x_recordVersion, x_recordValue, x_originProjection, x_originPosition, x_originInstruction, x_joined, x_removed, x_eventCount, x_cutLevel, x_draftType, x_draftValue, x_ops, x_arguments, x_programLength, x_states, x_noted, x_stack, x_metHeight, x_groupType, x_cursor, x_keptCursor, x_parked, x_rowCount, x_rowPosition, x_rowTimes, x_rowDue) => x_rowCount (3 * g)
/-- one return, on both sides -/
theorem em_ret1 {i : Nat} (H : es_Q c f d L q (x_records, x_removedCount, x_flushed, x_drafted, x_height, x_time, x_foundAt, x_recordStream, x_recordType, x_recordVersion, x_recordValue, x_originProjection, x_originPosition, x_originInstruction, x_joined, x_removed, x_eventCount, x_cutLevel, x_draftType, x_draftValue, x_ops, x_arguments, x_programLength, x_states, x_noted, x_stack, x_metHeight, x_groupType, x_cursor, x_keptCursor, x_parked, x_rowCount, x_rowPosition, x_rowTimes, x_rowDue) (y_count, y_flushed, y_calls, y_drafted, y_top, y_time, y_isCut, y_removed, y_stream, y_type, y_from, y_by, y_value, y_version, y_on, y_call, y_draftType, y_draftValue, y_op, y_with, y_length, y_height, y_torn, y_stack, y_position, y_cells, y_noted, y_wanted, y_formed, y_cursor, y_parked, y_where, y_often, y_due, y_many, y_found)) (hg : g < 2) (hz : y_formed g = 0 → nt = 0) (hi : i < nt)
    (h : es_Grp c f g nt nw nk u k x_cursor x_keptCursor x_rowCount x_rowPosition x_rowTimes x_rowDue y_cursor y_many y_where y_often y_due) :
    ∃ (u' : SX) (v' : SY), es_Q c f d L q u' v' ∧ es_cnt u' g = nI (nt - 1) ∧ (∀ post : SX → Prop, post u' → wpX_returnEntry post (x_records, x_removedCount, x_flushed, x_drafted, x_height, x_time, x_foundAt, x_recordStream, x_recordType, x_recordVersion, x_recordValue, x_originProjection, x_originPosition, x_originInstruction, x_joined, x_removed, x_eventCount, x_cutLevel, x_draftType, x_draftValue, x_ops, x_arguments, x_programLength, x_states, x_noted, x_stack, x_metHeight, x_groupType, x_cursor, x_keptCursor, x_parked, x_rowCount, x_rowPosition, x_rowTimes, x_rowDue) (nI g) (nI i)) ∧ (∀ post : SY → Prop, post v' → wpY_giveBack post (y_count, y_flushed, y_calls, y_drafted, y_top, y_time, y_isCut, y_removed, y_stream, y_type, y_from, y_by, y_value, y_version, y_on, y_call, y_draftType, y_draftValue, y_op, y_with, y_length, y_height, y_torn, y_stack, y_position, y_cells, y_noted, y_wanted, y_formed, y_cursor, y_parked, y_where, y_often, y_due, y_many, y_found) (nI g) (nI (8 * g + i))) := by
  obtain ⟨hL, hD, hP, hS, hG, hF⟩ := H
  have h0 := h
  obtain ⟨a0, a1, a2, a3, a4, a5, a6, a7, a8, a9, a10⟩ := h
  have ht : y_often (8 * g + i) = x_rowTimes (18 * g + i) := (a3 i hi).2.2
  by_cases z : x_rowTimes (18 * g + i) < 3
  · have hG' := es_RG_retA hG hg hz hi h0
    refine ⟨_, _, ⟨hL, hD, hP, hS, hG', hF⟩, ?_, fun post hp => ex_return hg a2.1 a2.2.2.1 hi a0.2.2.1 (fun _ => hp) (fun w => absurd z w), fun post hp => ey_giveBack hg a2.2.1 a2.2.2.2.1 hi a0.2.2.1 (fun _ => hp) (fun w => absurd (by rw [ht]; exact z) w)⟩
    show upd (upd x_rowCount (3 * g) (nI (nt - 1))) (3 * g + 1) (nI (nw + 1)) (3 * g) = _
    rw [pk_un (by omega), pk_us]
  · have hG' := es_RG_delT (pk' := upd y_parked g (y_parked g + 1)) hG hg hz hi h0
    have hpk := hG.1
    subst hpk
    refine ⟨_, _, ⟨hL, hD, hP, hS, hG', hF⟩, ?_, fun post hp => ex_return hg a2.1 a2.2.2.1 hi a0.2.2.1 (fun w => absurd w z) (fun _ => hp), fun post hp => ey_giveBack hg a2.2.1 a2.2.2.2.1 hi a0.2.2.1 (fun w => absurd w (by rw [ht]; exact z)) (fun _ => hp)⟩
    show upd x_rowCount (3 * g) (nI (nt - 1)) (3 * g) = _
    rw [pk_us]
theorem em_ans {pos b : Int32} (H : es_Q c f d L q (x_records, x_removedCount, x_flushed, x_drafted, x_height, x_time, x_foundAt, x_recordStream, x_recordType, x_recordVersion, x_recordValue, x_originProjection, x_originPosition, x_originInstruction, x_joined, x_removed, x_eventCount, x_cutLevel, x_draftType, x_draftValue, x_ops, x_arguments, x_programLength, x_states, x_noted, x_stack, x_metHeight, x_groupType, x_cursor, x_keptCursor, x_parked, x_rowCount, x_rowPosition, x_rowTimes, x_rowDue) (y_count, y_flushed, y_calls, y_drafted, y_top, y_time, y_isCut, y_removed, y_stream, y_type, y_from, y_by, y_value, y_version, y_on, y_call, y_draftType, y_draftValue, y_op, y_with, y_length, y_height, y_torn, y_stack, y_position, y_cells, y_noted, y_wanted, y_formed, y_cursor, y_parked, y_where, y_often, y_due, y_many, y_found)) (hg : g < 2) (hz : y_formed g = 0 → nt = 0)
    (h : es_Grp c f g nt nw nk u k x_cursor x_keptCursor x_rowCount x_rowPosition x_rowTimes x_rowDue y_cursor y_many y_where y_often y_due) :
    ∀ m i, i + m = nt → ∃ (r : Int32) (u' : SX) (v' : SY), es_Q c f d L q u' v' ∧
      (∀ post : Int32 → SX → Prop, post r u' → wX_answer_20 post (nI g) pos b (nI (3 * g)) x_records x_removedCount x_flushed x_drafted x_height x_time x_foundAt x_recordStream x_recordType x_recordVersion x_recordValue x_originProjection x_originPosition x_originInstruction x_joined x_removed x_eventCount x_cutLevel x_draftType x_draftValue x_ops x_arguments x_programLength x_states x_noted x_stack x_metHeight x_groupType x_cursor x_keptCursor x_parked x_rowCount x_rowPosition x_rowTimes x_rowDue (m + 1) (nI i)) ∧
      (∀ post : Int32 → SY → Prop, post r v' → wY_answer_16 post (nI g) pos b y_count y_flushed y_calls y_drafted y_top y_time y_isCut y_removed y_stream y_type y_from y_by y_value y_version y_on y_call y_draftType y_draftValue y_op y_with y_length y_height y_torn y_stack y_position y_cells y_noted y_wanted y_formed y_cursor y_parked y_where y_often y_due y_many y_found (m + 1) (nI (8 * g + i))) := by
  have h0 := h
  obtain ⟨a0, a1, a2, a3, a4, a5, a6, a7, a8, a9, a10⟩ := h
  have e1 : (nI (3 * g)).toNatClampNeg = 3 * g := nI_clamp (by omega)
  have e2 : (nI g).toNatClampNeg = g := nI_clamp (by omega)
  have v1 : vp_in (nI (3 * g)) 6 := vp_in_nI (by omega) (by decide)
  have v2 : vp_in (nI g) 6 := vp_in_nI (by omega) (by decide)
  have b1 : 8 * nI g + y_many (nI g).toNatClampNeg = nI (8 * g + nt) := by rw [e2, a2.2.1, es_8, nI_add]
  have b0 : x_rowCount (nI (3 * g)).toNatClampNeg = nI nt := by rw [e1, a2.1]
  intro m
  induction m with
  | zero =>
    intro i hi
    refine ⟨0, _, _, H, fun post hp => ⟨v1, br_t ?_ hp⟩, fun post hp => ⟨v2, br_t ?_ hp⟩⟩
    · rw [b0]; exact nI_le (by omega) (by omega)
    · rw [b1]; exact nI_le (by omega) (by omega)
  | succ m ih =>
    intro i hi
    have hit : i < nt := by omega
    have x1 : ¬ x_rowCount (nI (3 * g)).toNatClampNeg ≤ nI i := by rw [b0]; exact nI_ge (by omega) (by omega)
    have y1 : ¬ 8 * nI g + y_many (nI g).toNatClampNeg ≤ nI (8 * g + i) := by rw [b1]; exact nI_ge (by omega) (by omega)
    have xi : nI (3 * g) * 6 + nI i = nI (18 * g + i) := by rw [es_6, nI_add, show 6 * (3 * g) + i = 18 * g + i by omega]
    have vx : vp_in (nI (3 * g) * 6 + nI i) 36 := by rw [xi]; exact vp_in_nI (by omega) (by decide)
    have vy : vp_in (nI (8 * g + i)) 64 := vp_in_nI (by omega) (by decide)
    have cx : (nI (3 * g) * 6 + nI i).toNatClampNeg = 18 * g + i := by rw [xi, nI_clamp (by omega)]
    have cy : (nI (8 * g + i)).toNatClampNeg = 8 * g + i := nI_clamp (by omega)
    have hwi := (a3 i hit).2.1
    by_cases hp : x_rowPosition (18 * g + i) = pos
    · have hx : x_rowPosition (nI (3 * g) * 6 + nI i).toNatClampNeg = pos := by rw [cx]; exact hp
      have hy : y_where (nI (8 * g + i)).toNatClampNeg = pos := by rw [cy, hwi]; exact hp
      by_cases hb : b = 0
      · obtain ⟨u', v', hQ, _, hX, hY⟩ := em_ret1 H hg hz hit h0
        refine ⟨1, u', v', hQ, fun post hp => ⟨v1, br_f x1 ⟨vx, br_t hx (br_t hb (hX _ ?_))⟩⟩, fun post hp => ⟨v2, br_f y1 ⟨vy, br_t hy (br_t hb (hY _ ?_))⟩⟩⟩
        · obtain ⟨x_records, x_removedCount, x_flushed, x_drafted, x_height, x_time, x_foundAt, x_recordStream, x_recordType, x_recordVersion, x_recordValue, x_originProjection, x_originPosition, x_originInstruction, x_joined, x_removed, x_eventCount, x_cutLevel, x_draftType, x_draftValue, x_ops, x_arguments, x_programLength, x_states, x_noted, x_stack, x_metHeight, x_groupType, x_cursor, x_keptCursor, x_parked, x_rowCount, x_rowPosition, x_rowTimes, x_rowDue⟩ := u'
          exact hp
        · obtain ⟨y_count, y_flushed, y_calls, y_drafted, y_top, y_time, y_isCut, y_removed, y_stream, y_type, y_from, y_by, y_value, y_version, y_on, y_call, y_draftType, y_draftValue, y_op, y_with, y_length, y_height, y_torn, y_stack, y_position, y_cells, y_noted, y_wanted, y_formed, y_cursor, y_parked, y_where, y_often, y_due, y_many, y_found⟩ := v'
          exact hp
      · obtain ⟨hL, hD, hP, hS, hG, hF⟩ := H
        have hG' := es_RG_delT (pk' := y_parked) hG hg hz hit h0
        have hpk := hG.1
        subst hpk
        exact ⟨1, _, _, ⟨hL, hD, hP, hS, hG', hF⟩, fun post hp => ⟨v1, br_f x1 ⟨vx, br_t hx (br_f hb (ex_remove (b := 18 * g) (by omega) (by omega) a2.1 hit (by omega) hp))⟩⟩, fun post hp => ⟨v2, br_f y1 ⟨vy, br_t hy (br_f hb (ey_strike (b := 8 * g) rfl (by omega) a2.2.1 hit (by omega) hp))⟩⟩⟩
    · obtain ⟨r, u', v', hQ, hX, hY⟩ := ih (i + 1) (by omega)
      exact ⟨r, u', v', hQ, fun post h' => ⟨v1, br_f x1 ⟨vx, br_f (by rw [cx]; exact hp) (nm_r (nI_1 _) (hX post h'))⟩⟩, fun post h' => ⟨v2, br_f y1 ⟨vy, br_f (by rw [cy, hwi]; exact hp) (nm_r (e' := nI (8 * g + (i + 1))) (nI_1 _) (hY post h'))⟩⟩⟩
theorem i_vc_answer {k : Nat} {u : SX} {v : SY} (I : i_Rel k u v) (hk : k + 4 ≤ 2048) (v1 : Int32) (v2 : Int32) (v3 : Int32) : wpX_answer (fun r u' => wpY_answer (fun r' v' => r' = r ∧ i_Rel (k + 4) u' v') v v1 v2 (lw_bz v3)) u v1 v2 (lw_bz v3) := by
  obtain ⟨x_records, x_removedCount, x_flushed, x_drafted, x_height, x_time, x_foundAt, x_recordStream, x_recordType, x_recordVersion, x_recordValue, x_originProjection, x_originPosition, x_originInstruction, x_joined, x_removed, x_eventCount, x_cutLevel, x_draftType, x_draftValue, x_ops, x_arguments, x_programLength, x_states, x_noted, x_stack, x_metHeight, x_groupType, x_cursor, x_keptCursor, x_parked, x_rowCount, x_rowPosition, x_rowTimes, x_rowDue⟩ := u
  obtain ⟨y_count, y_flushed, y_calls, y_drafted, y_top, y_time, y_isCut, y_removed, y_stream, y_type, y_from, y_by, y_value, y_version, y_on, y_call, y_draftType, y_draftValue, y_op, y_with, y_length, y_height, y_torn, y_stack, y_position, y_cells, y_noted, y_wanted, y_formed, y_cursor, y_parked, y_where, y_often, y_due, y_many, y_found⟩ := v
  have J := i_up I
  obtain ⟨q, hq, c, f, d, L, hQ⟩ := I
  dsimp only [wpX_answer, wpY_answer]
  rcases es_rg v1 2 (by decide) with h | ⟨g, hg, rfl⟩
  · exact ex_formed0 h (br_t rfl (ey_outT 2 rfl h (br_f (by decide) ⟨rfl, J⟩)))
  · obtain ⟨hfm, nt, nw, nk, u, l, hz, hgr⟩ := hQ.2.2.2.2.1.2.2 g hg
    have hff := es_Frm_f hfm
    obtain ⟨r, u', v', hQ', hX, hY⟩ := em_ans (pos := v2) (b := lw_bz v3) hQ hg hz hgr nt 0 (by omega)
    refine ex_formed1 hg (fun z => ?_) (fun z => ?_)
    · refine br_t rfl (ey_outF 2 g rfl (by decide) hg (br_t rfl (nm_r (es_8 g) ⟨1, vp_in_nI (by omega) (by decide), br_t ?_ ⟨rfl, J⟩⟩)))
      rw [nI_clamp (by omega), hgr.2.2.1.2.1, hz (hff.mp z), es_8, nI_add]
      exact nI_le (by omega) (by omega)
    · exact br_f (by decide) (nm_r (es_g3 g) ⟨_, hX _ (ey_outF 2 g rfl (by decide) hg (br_t rfl (nm_r (es_8 g) ⟨_, hY _ ⟨rfl, q, by omega, c, f, d, L, hQ'⟩⟩)))⟩)
/-- all that is due in one group -/
theorem em_retn (hg : g < 2) : ∀ m j, j + m = 6 → ∀ (u : SX) (v : SY) (nt : Nat), es_Q c f d L q u v → es_cnt u g = nI nt → nt ≤ m → ∀ x2 : Int32, ∃ (jr : Nat) (u' : SX) (v' : SY), es_Q c f d L q u' v' ∧
      (∀ post : Int32 → SX → Prop, post (nI (j + jr)) u' → match u with | (x_records, x_removedCount, x_flushed, x_drafted, x_height, x_time, x_foundAt, x_recordStream, x_recordType, x_recordVersion, x_recordValue, x_originProjection, x_originPosition, x_originInstruction, x_joined, x_removed, x_eventCount, x_cutLevel, x_draftType, x_draftValue, x_ops, x_arguments, x_programLength, x_states, x_noted, x_stack, x_metHeight, x_groupType, x_cursor, x_keptCursor, x_parked, x_rowCount, x_rowPosition, x_rowTimes, x_rowDue) => wX_returnDue_2 post (nI g) (m + 1) (nI j) x_records x_removedCount x_flushed x_drafted x_height x_time x_foundAt x_recordStream x_recordType x_recordVersion x_recordValue x_originProjection x_originPosition x_originInstruction x_joined x_removed x_eventCount x_cutLevel x_draftType x_draftValue x_ops x_arguments x_programLength x_states x_noted x_stack x_metHeight x_groupType x_cursor x_keptCursor x_parked x_rowCount x_rowPosition x_rowTimes x_rowDue) ∧
      (∀ (post : Int32 → SY → Prop) (K : Int32 → Int32 → SY → Prop), K (x2 + nI jr) (nI g + 1) v' → match v with | (y_count, y_flushed, y_calls, y_drafted, y_top, y_time, y_isCut, y_removed, y_stream, y_type, y_from, y_by, y_value, y_version, y_on, y_call, y_draftType, y_draftValue, y_op, y_with, y_length, y_height, y_torn, y_stack, y_position, y_cells, y_noted, y_wanted, y_formed, y_cursor, y_parked, y_where, y_often, y_due, y_many, y_found) => wpY_late (fun r => wY_tick_38 post ((fun a b z_count z_flushed z_calls z_drafted z_top z_time z_isCut z_removed z_stream z_type z_from z_by z_value z_version z_on z_call z_draftType z_draftValue z_op z_with z_length z_height z_torn z_stack z_position z_cells z_noted z_wanted z_formed z_cursor z_parked z_where z_often z_due z_many z_found => K a b (z_count, z_flushed, z_calls, z_drafted, z_top, z_time, z_isCut, z_removed, z_stream, z_type, z_from, z_by, z_value, z_version, z_on, z_call, z_draftType, z_draftValue, z_op, z_with, z_length, z_height, z_torn, z_stack, z_position, z_cells, z_noted, z_wanted, z_formed, z_cursor, z_parked, z_where, z_often, z_due, z_many, z_found))) (nI g) (m + 1) x2 r y_count y_flushed y_calls y_drafted y_top y_time y_isCut y_removed y_stream y_type y_from y_by y_value y_version y_on y_call y_draftType y_draftValue y_op y_with y_length y_height y_torn y_stack y_position y_cells y_noted y_wanted y_formed y_cursor y_parked y_where y_often y_due y_many y_found) (y_count, y_flushed, y_calls, y_drafted, y_top, y_time, y_isCut, y_removed, y_stream, y_type, y_from, y_by, y_value, y_version, y_on, y_call, y_draftType, y_draftValue, y_op, y_with, y_length, y_height, y_torn, y_stack, y_position, y_cells, y_noted, y_wanted, y_formed, y_cursor, y_parked, y_where, y_often, y_due, y_many, y_found) (nI g)) := by
  intro m
  induction m with
  | zero =>
    intro j hj u v nt hQ hcnt hnt x2
    obtain ⟨x_records, x_removedCount, x_flushed, x_drafted, x_height, x_time, x_foundAt, x_recordStream, x_recordType, x_recordVersion, x_recordValue, x_originProjection, x_originPosition, x_originInstruction, x_joined, x_removed, x_eventCount, x_cutLevel, x_draftType, x_draftValue, x_ops, x_arguments, x_programLength, x_states, x_noted, x_stack, x_metHeight, x_groupType, x_cursor, x_keptCursor, x_parked, x_rowCount, x_rowPosition, x_rowTimes, x_rowDue⟩ := u
    obtain ⟨y_count, y_flushed, y_calls, y_drafted, y_top, y_time, y_isCut, y_removed, y_stream, y_type, y_from, y_by, y_value, y_version, y_on, y_call, y_draftType, y_draftValue, y_op, y_with, y_length, y_height, y_torn, y_stack, y_position, y_cells, y_noted, y_wanted, y_formed, y_cursor, y_parked, y_where, y_often, y_due, y_many, y_found⟩ := v
    obtain ⟨hfm, nt', nw, nk, w, l, hz, hgr⟩ := hQ.2.2.2.2.1.2.2 g hg
    have ht := hQ.2.2.2.2.1.2.1
    subst ht
    obtain ⟨o, ho, hX, hY⟩ := em_due hQ hg hgr
    have e0 : nt' = 0 := by
      have e1 : x_rowCount (3 * g) = nI nt := hcnt
      rw [hgr.2.2.1.1] at e1
      have := es_inj e1 (by have := hgr.1.2.2.1; omega) (by omega)
      omega
    have e : o = none := by
      cases o with
      | none => rfl
      | some b => have := ho b rfl; omega
    subst e
    refine ⟨0, _, _, hQ, fun post hp => br_t ?_ ?_, fun post K hK => hY _ (br_t (show (-1 : Int32) < 0 by decide) (nm_e ?_))⟩
    · exact nI_le (a := 6) (by omega) (by omega)
    · rw [show j + 0 = 6 by omega] at hp; exact hp
    · rw [nI_0, Int32.add_zero] at hK; exact hK
  | succ m ih =>
    intro j hj u v nt hQ hcnt hnt x2
    obtain ⟨x_records, x_removedCount, x_flushed, x_drafted, x_height, x_time, x_foundAt, x_recordStream, x_recordType, x_recordVersion, x_recordValue, x_originProjection, x_originPosition, x_originInstruction, x_joined, x_removed, x_eventCount, x_cutLevel, x_draftType, x_draftValue, x_ops, x_arguments, x_programLength, x_states, x_noted, x_stack, x_metHeight, x_groupType, x_cursor, x_keptCursor, x_parked, x_rowCount, x_rowPosition, x_rowTimes, x_rowDue⟩ := u
    obtain ⟨y_count, y_flushed, y_calls, y_drafted, y_top, y_time, y_isCut, y_removed, y_stream, y_type, y_from, y_by, y_value, y_version, y_on, y_call, y_draftType, y_draftValue, y_op, y_with, y_length, y_height, y_torn, y_stack, y_position, y_cells, y_noted, y_wanted, y_formed, y_cursor, y_parked, y_where, y_often, y_due, y_many, y_found⟩ := v
    obtain ⟨hfm, nt', nw, nk, w, l, hz, hgr⟩ := hQ.2.2.2.2.1.2.2 g hg
    have ht := hQ.2.2.2.2.1.2.1
    subst ht
    obtain ⟨o, ho, hX, hY⟩ := em_due hQ hg hgr
    have e0 : nt' = nt := by
      have e1 : x_rowCount (3 * g) = nI nt := hcnt
      rw [hgr.2.2.1.1] at e1
      exact es_inj e1 (by have := hgr.1.2.2.1; omega) (by omega)
    have hj6 : ¬ (6 : Int32) ≤ nI j := nI_ge (b := 6) (by omega) (by decide)
    cases o with
    | none =>
      refine ⟨0, _, _, hQ, fun post hp => br_f hj6 (hX _ (br_t rfl hp)), fun post K hK => hY _ (br_t (show (-1 : Int32) < 0 by decide) (nm_e ?_))⟩
      rw [nI_0, Int32.add_zero] at hK; exact hK
    | some b =>
      have hb := ho b rfl
      obtain ⟨u1, v1, hQ1, hc1, hX1, hY1⟩ := em_ret1 hQ hg hz hb hgr
      obtain ⟨jr, u', v', hQ', hX', hY'⟩ := ih (j + 1) (by omega) u1 v1 (nt' - 1) hQ1 hc1 (by omega) (x2 + 1)
      obtain ⟨x_records, x_removedCount, x_flushed, x_drafted, x_height, x_time, x_foundAt, x_recordStream, x_recordType, x_recordVersion, x_recordValue, x_originProjection, x_originPosition, x_originInstruction, x_joined, x_removed, x_eventCount, x_cutLevel, x_draftType, x_draftValue, x_ops, x_arguments, x_programLength, x_states, x_noted, x_stack, x_metHeight, x_groupType, x_cursor, x_keptCursor, x_parked, x_rowCount, x_rowPosition, x_rowTimes, x_rowDue⟩ := u1
      obtain ⟨y_count, y_flushed, y_calls, y_drafted, y_top, y_time, y_isCut, y_removed, y_stream, y_type, y_from, y_by, y_value, y_version, y_on, y_call, y_draftType, y_draftValue, y_op, y_with, y_length, y_height, y_torn, y_stack, y_position, y_cells, y_noted, y_wanted, y_formed, y_cursor, y_parked, y_where, y_often, y_due, y_many, y_found⟩ := v1
      refine ⟨jr + 1, u', v', hQ', fun post hp => br_f hj6 (hX _ (br_f (es_nm4 (by omega)) (hX1 _ (nm_r (nI_1 _) (hX' post ?_))))), fun post K hK => hY _ (br_f (nI_pos (n := 8 * g + b) (by omega)) (hY1 _ (nm_e (hY' post K ?_))))⟩
      · rw [show j + 1 + jr = j + (jr + 1) by omega]; exact hp
      · rw [nI_succ, Int32.add_comm (nI jr), ← Int32.add_assoc] at hK; exact hK
theorem em_tickg (hg : g < 2) (H : es_Q c f d L q (x_records, x_removedCount, x_flushed, x_drafted, x_height, x_time, x_foundAt, x_recordStream, x_recordType, x_recordVersion, x_recordValue, x_originProjection, x_originPosition, x_originInstruction, x_joined, x_removed, x_eventCount, x_cutLevel, x_draftType, x_draftValue, x_ops, x_arguments, x_programLength, x_states, x_noted, x_stack, x_metHeight, x_groupType, x_cursor, x_keptCursor, x_parked, x_rowCount, x_rowPosition, x_rowTimes, x_rowDue) (y_count, y_flushed, y_calls, y_drafted, y_top, y_time, y_isCut, y_removed, y_stream, y_type, y_from, y_by, y_value, y_version, y_on, y_call, y_draftType, y_draftValue, y_op, y_with, y_length, y_height, y_torn, y_stack, y_position, y_cells, y_noted, y_wanted, y_formed, y_cursor, y_parked, y_where, y_often, y_due, y_many, y_found)) (x2 : Int32) : ∃ (jr : Nat) (u' : SX) (v' : SY), es_Q c f d L q u' v' ∧
      (∀ post : Int32 → SX → Prop, post (nI jr) u' → wpX_returnDue post (x_records, x_removedCount, x_flushed, x_drafted, x_height, x_time, x_foundAt, x_recordStream, x_recordType, x_recordVersion, x_recordValue, x_originProjection, x_originPosition, x_originInstruction, x_joined, x_removed, x_eventCount, x_cutLevel, x_draftType, x_draftValue, x_ops, x_arguments, x_programLength, x_states, x_noted, x_stack, x_metHeight, x_groupType, x_cursor, x_keptCursor, x_parked, x_rowCount, x_rowPosition, x_rowTimes, x_rowDue) (nI g)) ∧
      (∀ (post : Int32 → SY → Prop) (K : Int32 → Int32 → SY → Prop), K (x2 + nI jr) (nI g + 1) v' → wpY_late (fun r => ∃ n, wY_tick_38 post ((fun a b z_count z_flushed z_calls z_drafted z_top z_time z_isCut z_removed z_stream z_type z_from z_by z_value z_version z_on z_call z_draftType z_draftValue z_op z_with z_length z_height z_torn z_stack z_position z_cells z_noted z_wanted z_formed z_cursor z_parked z_where z_often z_due z_many z_found => K a b (z_count, z_flushed, z_calls, z_drafted, z_top, z_time, z_isCut, z_removed, z_stream, z_type, z_from, z_by, z_value, z_version, z_on, z_call, z_draftType, z_draftValue, z_op, z_with, z_length, z_height, z_torn, z_stack, z_position, z_cells, z_noted, z_wanted, z_formed, z_cursor, z_parked, z_where, z_often, z_due, z_many, z_found))) (nI g) n x2 r y_count y_flushed y_calls y_drafted y_top y_time y_isCut y_removed y_stream y_type y_from y_by y_value y_version y_on y_call y_draftType y_draftValue y_op y_with y_length y_height y_torn y_stack y_position y_cells y_noted y_wanted y_formed y_cursor y_parked y_where y_often y_due y_many y_found) (y_count, y_flushed, y_calls, y_drafted, y_top, y_time, y_isCut, y_removed, y_stream, y_type, y_from, y_by, y_value, y_version, y_on, y_call, y_draftType, y_draftValue, y_op, y_with, y_length, y_height, y_torn, y_stack, y_position, y_cells, y_noted, y_wanted, y_formed, y_cursor, y_parked, y_where, y_often, y_due, y_many, y_found) (nI g)) := by
  obtain ⟨hfm, nt, nw, nk, w, l, hz, hgr⟩ := H.2.2.2.2.1.2.2 g hg
  have ht := H.2.2.2.2.1.2.1
  subst ht
  obtain ⟨o, ho, hX, hY⟩ := em_due H hg hgr
  have hj6 : ¬ (6 : Int32) ≤ nI 0 := by decide
  cases o with
  | none =>
    refine ⟨0, _, _, H, fun post hp => ⟨1, br_f hj6 (hX _ (br_t rfl hp))⟩, fun post K hK => hY _ ⟨1, br_t (show (-1 : Int32) < 0 by decide) (nm_e ?_)⟩⟩
    rw [nI_0, Int32.add_zero] at hK; exact hK
  | some b =>
    have hb := ho b rfl
    obtain ⟨u1, v1, hQ1, hc1, hX1, hY1⟩ := em_ret1 H hg hz hb hgr
    obtain ⟨jr, u', v', hQ', hX', hY'⟩ := em_retn hg 5 1 (by omega) u1 v1 (nt - 1) hQ1 hc1 (by have := hgr.1.2.2.1; omega) (x2 + 1)
    obtain ⟨x_records, x_removedCount, x_flushed, x_drafted, x_height, x_time, x_foundAt, x_recordStream, x_recordType, x_recordVersion, x_recordValue, x_originProjection, x_originPosition, x_originInstruction, x_joined, x_removed, x_eventCount, x_cutLevel, x_draftType, x_draftValue, x_ops, x_arguments, x_programLength, x_states, x_noted, x_stack, x_metHeight, x_groupType, x_cursor, x_keptCursor, x_parked, x_rowCount, x_rowPosition, x_rowTimes, x_rowDue⟩ := u1
    obtain ⟨y_count, y_flushed, y_calls, y_drafted, y_top, y_time, y_isCut, y_removed, y_stream, y_type, y_from, y_by, y_value, y_version, y_on, y_call, y_draftType, y_draftValue, y_op, y_with, y_length, y_height, y_torn, y_stack, y_position, y_cells, y_noted, y_wanted, y_formed, y_cursor, y_parked, y_where, y_often, y_due, y_many, y_found⟩ := v1
    refine ⟨jr + 1, u', v', hQ', fun post hp => ⟨7, br_f hj6 (hX _ (br_f (es_nm4 (by have := hgr.1.2.2.1; omega)) (hX1 _ (nm_e (hX' post ?_)))))⟩, fun post K hK => hY _ ⟨7, br_f (nI_pos (n := 8 * g + b) (by have := hgr.1.2.2.1; omega)) (hY1 _ (nm_e (hY' post K ?_)))⟩⟩
    · rw [show 1 + jr = jr + 1 by omega]; exact hp
    · rw [nI_succ, Int32.add_comm (nI jr), ← Int32.add_assoc] at hK; exact hK
theorem i_vc_tick {k : Nat} {u : SX} {v : SY} (I : i_Rel k u v) (hk : k + 4 ≤ 2048) (v1 : Int32) : wpX_tick (fun r u' => wpY_tick (fun r' v' => r' = r ∧ i_Rel (k + 4) u' v') v v1) u v1 := by
  obtain ⟨x_records, x_removedCount, x_flushed, x_drafted, x_height, x_time, x_foundAt, x_recordStream, x_recordType, x_recordVersion, x_recordValue, x_originProjection, x_originPosition, x_originInstruction, x_joined, x_removed, x_eventCount, x_cutLevel, x_draftType, x_draftValue, x_ops, x_arguments, x_programLength, x_states, x_noted, x_stack, x_metHeight, x_groupType, x_cursor, x_keptCursor, x_parked, x_rowCount, x_rowPosition, x_rowTimes, x_rowDue⟩ := u
  obtain ⟨y_count, y_flushed, y_calls, y_drafted, y_top, y_time, y_isCut, y_removed, y_stream, y_type, y_from, y_by, y_value, y_version, y_on, y_call, y_draftType, y_draftValue, y_op, y_with, y_length, y_height, y_torn, y_stack, y_position, y_cells, y_noted, y_wanted, y_formed, y_cursor, y_parked, y_where, y_often, y_due, y_many, y_found⟩ := v
  have J := i_up I
  obtain ⟨q, hq, c, f, d, L, hQ⟩ := I
  dsimp only [wpX_tick, wpY_tick]
  by_cases z : v1 < 0
  · exact br_t z (br_t z ⟨rfl, J⟩)
  · by_cases z2 : v1 ≤ 100
    · obtain ⟨hL, hD, hP, hS, ⟨g1, g2, g3⟩, hF⟩ := hQ
      subst g2
      have hQ : es_Q c f d L q (x_records, x_removedCount, x_flushed, x_drafted, x_height, y_time + v1, x_foundAt, x_recordStream, x_recordType, x_recordVersion, x_recordValue, x_originProjection, x_originPosition, x_originInstruction, x_joined, x_removed, x_eventCount, x_cutLevel, x_draftType, x_draftValue, x_ops, x_arguments, x_programLength, x_states, x_noted, x_stack, x_metHeight, x_groupType, x_cursor, x_keptCursor, x_parked, x_rowCount, x_rowPosition, x_rowTimes, x_rowDue) (y_count, y_flushed, y_calls, y_drafted, y_top, y_time + v1, y_isCut, y_removed, y_stream, y_type, y_from, y_by, y_value, y_version, y_on, y_call, y_draftType, y_draftValue, y_op, y_with, y_length, y_height, y_torn, y_stack, y_position, y_cells, y_noted, y_wanted, y_formed, y_cursor, y_parked, y_where, y_often, y_due, y_many, y_found) := ⟨hL, hD, hP, hS, ⟨g1, rfl, g3⟩, hF⟩
      obtain ⟨j0, u0, v0, hQ0, hX0, hY0⟩ := em_tickg (g := 0) (by omega) hQ 0
      obtain ⟨w_1, w_2, w_3, w_4, w_5, w_6, w_7, w_8, w_9, w_10, w_11, w_12, w_13, w_14, w_15, w_16, w_17, w_18, w_19, w_20, w_21, w_22, w_23, w_24, w_25, w_26, w_27, w_28, w_29, w_30, w_31, w_32, w_33, w_34, w_35⟩ := u0
      obtain ⟨t_1, t_2, t_3, t_4, t_5, t_6, t_7, t_8, t_9, t_10, t_11, t_12, t_13, t_14, t_15, t_16, t_17, t_18, t_19, t_20, t_21, t_22, t_23, t_24, t_25, t_26, t_27, t_28, t_29, t_30, t_31, t_32, t_33, t_34, t_35, t_36⟩ := v0
      obtain ⟨j1, u1, v1', hQ1, hX1, hY1⟩ := em_tickg (g := 1) (by omega) hQ0 (0 + nI j0)
      refine br_f z (br_t z2 (nm_e ⟨3, br_f (by decide) (hX0 _ (nm_e (nm_e (br_f (by decide) (hX1 _ ?_)))))⟩))
      obtain ⟨w_1, w_2, w_3, w_4, w_5, w_6, w_7, w_8, w_9, w_10, w_11, w_12, w_13, w_14, w_15, w_16, w_17, w_18, w_19, w_20, w_21, w_22, w_23, w_24, w_25, w_26, w_27, w_28, w_29, w_30, w_31, w_32, w_33, w_34, w_35⟩ := u1
      refine nm_e (nm_e (br_t (by decide) ?_))
      refine br_f z (br_t z2 (nm_e ⟨3, br_f (by decide) ?_⟩))
      refine hY0 _ (fun a b v => match v with | (y_count, y_flushed, y_calls, y_drafted, y_top, y_time, y_isCut, y_removed, y_stream, y_type, y_from, y_by, y_value, y_version, y_on, y_call, y_draftType, y_draftValue, y_op, y_with, y_length, y_height, y_torn, y_stack, y_position, y_cells, y_noted, y_wanted, y_formed, y_cursor, y_parked, y_where, y_often, y_due, y_many, y_found) => wY_tick_26 (fun r' v' => r' = 0 + nI j0 + nI j1 ∧ i_Rel (k + 4) (w_1, w_2, w_3, w_4, w_5, w_6, w_7, w_8, w_9, w_10, w_11, w_12, w_13, w_14, w_15, w_16, w_17, w_18, w_19, w_20, w_21, w_22, w_23, w_24, w_25, w_26, w_27, w_28, w_29, w_30, w_31, w_32, w_33, w_34, w_35) v') 2 a b y_count y_flushed y_calls y_drafted y_top y_time y_isCut y_removed y_stream y_type y_from y_by y_value y_version y_on y_call y_draftType y_draftValue y_op y_with y_length y_height y_torn y_stack y_position y_cells y_noted y_wanted y_formed y_cursor y_parked y_where y_often y_due y_many y_found) ?_
      refine br_f (by decide) ?_
      refine hY1 _ (fun a b v => match v with | (y_count, y_flushed, y_calls, y_drafted, y_top, y_time, y_isCut, y_removed, y_stream, y_type, y_from, y_by, y_value, y_version, y_on, y_call, y_draftType, y_draftValue, y_op, y_with, y_length, y_height, y_torn, y_stack, y_position, y_cells, y_noted, y_wanted, y_formed, y_cursor, y_parked, y_where, y_often, y_due, y_many, y_found) => wY_tick_26 (fun r' v' => r' = 0 + nI j0 + nI j1 ∧ i_Rel (k + 4) (w_1, w_2, w_3, w_4, w_5, w_6, w_7, w_8, w_9, w_10, w_11, w_12, w_13, w_14, w_15, w_16, w_17, w_18, w_19, w_20, w_21, w_22, w_23, w_24, w_25, w_26, w_27, w_28, w_29, w_30, w_31, w_32, w_33, w_34, w_35) v') 1 a b y_count y_flushed y_calls y_drafted y_top y_time y_isCut y_removed y_stream y_type y_from y_by y_value y_version y_on y_call y_draftType y_draftValue y_op y_with y_length y_height y_torn y_stack y_position y_cells y_noted y_wanted y_formed y_cursor y_parked y_where y_often y_due y_many y_found) ?_
      obtain ⟨t_1, t_2, t_3, t_4, t_5, t_6, t_7, t_8, t_9, t_10, t_11, t_12, t_13, t_14, t_15, t_16, t_17, t_18, t_19, t_20, t_21, t_22, t_23, t_24, t_25, t_26, t_27, t_28, t_29, t_30, t_31, t_32, t_33, t_34, t_35, t_36⟩ := v1'
      exact br_t (by decide) ⟨rfl, q, by omega, c, f, d, L, hQ1⟩
    · exact br_f z (br_f z2 (br_f z (br_f z2 ⟨rfl, J⟩)))
end
