section
/-! the first that is due -/
variable {x_records x_removedCount x_flushed x_drafted x_height x_time x_foundAt : Int32} {x_recordStream x_recordType x_recordVersion x_recordValue x_originProjection x_originPosition x_originInstruction x_joined x_removed x_eventCount x_cutLevel x_draftType x_draftValue x_ops x_arguments x_programLength x_states x_noted x_stack x_metHeight x_groupType x_cursor x_keptCursor x_parked x_rowCount x_rowPosition x_rowTimes x_rowDue : Nat → Int32} {y_count y_flushed y_calls y_drafted y_top y_time : Int32} {y_isCut y_removed y_stream y_type y_from y_by y_value y_version y_on y_call y_draftType y_draftValue y_op y_with y_length y_height y_torn y_stack y_position y_cells y_noted y_wanted y_formed y_cursor y_parked y_where y_often y_due y_many y_found : Nat → Int32} {c f d q g nt nw nk u k : Nat} {L : Nat → Nat}
def es_ox : Option Nat → Int32
  | none => -4
  | some b => nI b
def es_oy (g : Nat) : Option Nat → Int32
  | none => -1
  | some b => nI (8 * g + b)
theorem em_due1 (hg : g < 2) (hn : nt ≤ 6) (h1 : x_rowCount (3 * g) = nI nt) (h2 : y_many g = nI nt)
    (hw : ∀ i, i < nt → y_where (8 * g + i) = x_rowPosition (18 * g + i)) (hd : ∀ i, i < nt → y_due (8 * g + i) = x_rowDue (18 * g + i)) :
    ∀ m i, i + m = nt → ∀ o : Option Nat, (∀ b, o = some b → b < nt) → ∃ o' : Option Nat, (∀ b, o' = some b → b < nt) ∧
      (∀ post : Int32 → Prop, post (es_ox o') → wX_firstDue_18 post (nI (3 * g)) (nI (18 * g)) x_records x_removedCount x_flushed x_drafted x_height x_time x_foundAt x_recordStream x_recordType x_recordVersion x_recordValue x_originProjection x_originPosition x_originInstruction x_joined x_removed x_eventCount x_cutLevel x_draftType x_draftValue x_ops x_arguments x_programLength x_states x_noted x_stack x_metHeight x_groupType x_cursor x_keptCursor x_parked x_rowCount x_rowPosition x_rowTimes x_rowDue (m + 1) (es_ox o) (nI i)) ∧
      (∀ post : Int32 → Prop, post (es_oy g o') → wY_late_7 post (nI g) y_count y_flushed y_calls y_drafted y_top x_time y_isCut y_removed y_stream y_type y_from y_by y_value y_version y_on y_call y_draftType y_draftValue y_op y_with y_length y_height y_torn y_stack y_position y_cells y_noted y_wanted y_formed y_cursor y_parked y_where y_often y_due y_many y_found (m + 1) (es_oy g o) (nI (8 * g + i))) := by
  have e1 : (nI (3 * g)).toNatClampNeg = 3 * g := nI_clamp (by omega)
  have e2 : (nI g).toNatClampNeg = g := nI_clamp (by omega)
  have v1 : vp_in (nI (3 * g)) 6 := vp_in_nI (by omega) (by decide)
  have v2 : vp_in (nI g) 6 := vp_in_nI (by omega) (by decide)
  have b1 : 8 * nI g + y_many (nI g).toNatClampNeg = nI (8 * g + nt) := by rw [e2, h2, es_8, nI_add]
  have b0 : x_rowCount (nI (3 * g)).toNatClampNeg = nI nt := by rw [e1, h1]
  intro m
  induction m with
  | zero =>
    intro i hi o ho
    refine ⟨o, ho, fun post hp => ⟨v1, br_t ?_ hp⟩, fun post hp => ⟨v2, br_t ?_ hp⟩⟩
    · rw [b0]; exact nI_le (by omega) (by omega)
    · rw [b1]; exact nI_le (by omega) (by omega)
  | succ m ih =>
    intro i hi o ho
    have hit : i < nt := by omega
    have x1 : ¬ x_rowCount (nI (3 * g)).toNatClampNeg ≤ nI i := by rw [b0]; exact nI_ge (by omega) (by omega)
    have y1 : ¬ 8 * nI g + y_many (nI g).toNatClampNeg ≤ nI (8 * g + i) := by rw [b1]; exact nI_ge (by omega) (by omega)
    have xi : nI (18 * g) + nI i = nI (18 * g + i) := nI_add _ _
    have vx : vp_in (nI (18 * g) + nI i) 36 := by rw [xi]; exact vp_in_nI (by omega) (by decide)
    have vy : vp_in (nI (8 * g + i)) 64 := vp_in_nI (by omega) (by decide)
    have cx : (nI (18 * g) + nI i).toNatClampNeg = 18 * g + i := by rw [xi, nI_clamp (by omega)]
    have cy : (nI (8 * g + i)).toNatClampNeg = 8 * g + i := nI_clamp (by omega)
    have hdi := hd i hit
    have hwi := hw i hit
    have ny : nI (8 * g + i) + 1 = nI (8 * g + (i + 1)) := nI_1 _
    obtain ⟨oK, gK, aK, bK⟩ := ih (i + 1) (by omega) o ho
    obtain ⟨oN, gN, aN, bN⟩ := ih (i + 1) (by omega) (some i) (fun b e => by cases e; exact hit)
    by_cases ht : x_time < x_rowDue (18 * g + i)
    · refine ⟨oK, gK, fun post hp => ⟨v1, br_f x1 ⟨vx, br_t (by rw [cx]; exact ht) (nm_r (nI_1 _) (aK post hp))⟩⟩, fun post hp => ⟨v2, br_f y1 ⟨vy, br_f (by rw [cy, hdi]; exact fun z => es_ltirr (es_ltle ht z)) (nm_r ny (bK post hp))⟩⟩⟩
    · have ht' : x_rowDue (18 * g + i) ≤ x_time := es_nlt ht
      cases o with
      | none =>
        exact ⟨oN, gN, fun post hp => ⟨v1, br_f x1 ⟨vx, br_f (by rw [cx]; exact ht) (br_t rfl (nm_r (nI_1 _) (aN post hp)))⟩⟩, fun post hp => ⟨v2, br_f y1 ⟨vy, br_t (by rw [cy, hdi]; exact ht') (br_t (show (-1 : Int32) < 0 by decide) (nm_r ny (bN post hp)))⟩⟩⟩
      | some b =>
        have hb : b < nt := ho b rfl
        have hdb := hd b hb
        have hwb := hw b hb
        have n4 : ¬ es_ox (some b) = -4 := es_nm4 (by omega)
        have n0 : ¬ es_oy g (some b) < 0 := nI_pos (by omega)
        have xb : nI (18 * g) + es_ox (some b) = nI (18 * g + b) := nI_add _ _
        have vb : vp_in (nI (18 * g) + es_ox (some b)) 36 := by rw [xb]; exact vp_in_nI (by omega) (by decide)
        have cb : (nI (18 * g) + es_ox (some b)).toNatClampNeg = 18 * g + b := by rw [xb, nI_clamp (by omega)]
        have wb : vp_in (es_oy g (some b)) 64 := vp_in_nI (n := 8 * g + b) (by omega) (by decide)
        have db : (es_oy g (some b)).toNatClampNeg = 8 * g + b := nI_clamp (n := 8 * g + b) (by omega)
        have xs : ∀ (P : Int32 → Prop), (if x_rowDue (18 * g + i) = x_rowDue (18 * g + b) then (if x_rowPosition (18 * g + b) ≤ x_rowPosition (18 * g + i) then P 0 else P 1) else (if x_rowDue (18 * g + b) ≤ x_rowDue (18 * g + i) then P 0 else P 1)) → wpX_isDueBefore P (x_records, x_removedCount, x_flushed, x_drafted, x_height, x_time, x_foundAt, x_recordStream, x_recordType, x_recordVersion, x_recordValue, x_originProjection, x_originPosition, x_originInstruction, x_joined, x_removed, x_eventCount, x_cutLevel, x_draftType, x_draftValue, x_ops, x_arguments, x_programLength, x_states, x_noted, x_stack, x_metHeight, x_groupType, x_cursor, x_keptCursor, x_parked, x_rowCount, x_rowPosition, x_rowTimes, x_rowDue) (nI (18 * g) + nI i) (nI (18 * g) + es_ox (some b)) := by
          intro P hP
          refine ⟨vx, vb, ?_⟩
          rw [cx, cb]
          refine br_c (fun z => ⟨vx, vb, ?_⟩) (fun z => ⟨vx, vb, ?_⟩)
          · rw [if_pos z] at hP
            exact br_c (fun w => by rw [if_pos w] at hP; exact hP) (fun w => by rw [if_neg w] at hP; exact hP)
          · rw [if_neg z] at hP
            exact br_c (fun w => by rw [if_pos w] at hP; exact hP) (fun w => by rw [if_neg w] at hP; exact hP)
        have yK : ∀ post : Int32 → Prop, post (es_oy g oK) → ¬ x_rowDue (18 * g + i) < x_rowDue (18 * g + b) → (x_rowDue (18 * g + i) = x_rowDue (18 * g + b) → x_rowPosition (18 * g + b) ≤ x_rowPosition (18 * g + i)) → wY_late_7 post (nI g) y_count y_flushed y_calls y_drafted y_top x_time y_isCut y_removed y_stream y_type y_from y_by y_value y_version y_on y_call y_draftType y_draftValue y_op y_with y_length y_height y_torn y_stack y_position y_cells y_noted y_wanted y_formed y_cursor y_parked y_where y_often y_due y_many y_found (m + 1 + 1) (es_oy g (some b)) (nI (8 * g + i)) := by
          intro post hp z w
          refine ⟨v2, br_f y1 ⟨vy, br_t (by rw [cy, hdi]; exact ht') (br_f n0 ⟨vy, wb, ?_⟩)⟩⟩
          rw [cy, db, hdi, hdb, hwi, hwb]
          exact br_f z ⟨vy, wb, br_c (fun e => ⟨vy, wb, br_t (w e) (nm_r ny (bK post hp))⟩) (fun e => nm_r ny (bK post hp))⟩
        have yN : ∀ post : Int32 → Prop, post (es_oy g oN) → (x_rowDue (18 * g + i) < x_rowDue (18 * g + b) ∨ (x_rowDue (18 * g + i) = x_rowDue (18 * g + b) ∧ ¬ x_rowPosition (18 * g + b) ≤ x_rowPosition (18 * g + i))) → wY_late_7 post (nI g) y_count y_flushed y_calls y_drafted y_top x_time y_isCut y_removed y_stream y_type y_from y_by y_value y_version y_on y_call y_draftType y_draftValue y_op y_with y_length y_height y_torn y_stack y_position y_cells y_noted y_wanted y_formed y_cursor y_parked y_where y_often y_due y_many y_found (m + 1 + 1) (es_oy g (some b)) (nI (8 * g + i)) := by
          intro post hp z
          refine ⟨v2, br_f y1 ⟨vy, br_t (by rw [cy, hdi]; exact ht') (br_f n0 ⟨vy, wb, ?_⟩)⟩⟩
          rw [cy, db, hdi, hdb, hwi, hwb]
          refine br_c (fun e => nm_r ny (bN post hp)) (fun e => ⟨vy, wb, ?_⟩)
          rcases z with z | z
          · exact absurd z e
          · exact br_t z.1 ⟨vy, wb, br_f z.2 (nm_r ny (bN post hp))⟩
        have xK : ∀ post : Int32 → Prop, post (es_ox oK) → (∀ P : Int32 → Prop, P 0 → wpX_isDueBefore P (x_records, x_removedCount, x_flushed, x_drafted, x_height, x_time, x_foundAt, x_recordStream, x_recordType, x_recordVersion, x_recordValue, x_originProjection, x_originPosition, x_originInstruction, x_joined, x_removed, x_eventCount, x_cutLevel, x_draftType, x_draftValue, x_ops, x_arguments, x_programLength, x_states, x_noted, x_stack, x_metHeight, x_groupType, x_cursor, x_keptCursor, x_parked, x_rowCount, x_rowPosition, x_rowTimes, x_rowDue) (nI (18 * g) + nI i) (nI (18 * g) + es_ox (some b))) → wX_firstDue_18 post (nI (3 * g)) (nI (18 * g)) x_records x_removedCount x_flushed x_drafted x_height x_time x_foundAt x_recordStream x_recordType x_recordVersion x_recordValue x_originProjection x_originPosition x_originInstruction x_joined x_removed x_eventCount x_cutLevel x_draftType x_draftValue x_ops x_arguments x_programLength x_states x_noted x_stack x_metHeight x_groupType x_cursor x_keptCursor x_parked x_rowCount x_rowPosition x_rowTimes x_rowDue (m + 1 + 1) (es_ox (some b)) (nI i) := by
          intro post hp hP
          exact ⟨v1, br_f x1 ⟨vx, br_f (by rw [cx]; exact ht) (br_f n4 (hP _ (br_t rfl (nm_r (nI_1 _) (aK post hp)))))⟩⟩
        have xN : ∀ post : Int32 → Prop, post (es_ox oN) → (∀ P : Int32 → Prop, P 1 → wpX_isDueBefore P (x_records, x_removedCount, x_flushed, x_drafted, x_height, x_time, x_foundAt, x_recordStream, x_recordType, x_recordVersion, x_recordValue, x_originProjection, x_originPosition, x_originInstruction, x_joined, x_removed, x_eventCount, x_cutLevel, x_draftType, x_draftValue, x_ops, x_arguments, x_programLength, x_states, x_noted, x_stack, x_metHeight, x_groupType, x_cursor, x_keptCursor, x_parked, x_rowCount, x_rowPosition, x_rowTimes, x_rowDue) (nI (18 * g) + nI i) (nI (18 * g) + es_ox (some b))) → wX_firstDue_18 post (nI (3 * g)) (nI (18 * g)) x_records x_removedCount x_flushed x_drafted x_height x_time x_foundAt x_recordStream x_recordType x_recordVersion x_recordValue x_originProjection x_originPosition x_originInstruction x_joined x_removed x_eventCount x_cutLevel x_draftType x_draftValue x_ops x_arguments x_programLength x_states x_noted x_stack x_metHeight x_groupType x_cursor x_keptCursor x_parked x_rowCount x_rowPosition x_rowTimes x_rowDue (m + 1 + 1) (es_ox (some b)) (nI i) := by
          intro post hp hP
          exact ⟨v1, br_f x1 ⟨vx, br_f (by rw [cx]; exact ht) (br_f n4 (hP _ (br_f (by decide) (nm_r (nI_1 _) (aN post hp)))))⟩⟩
        by_cases e : x_rowDue (18 * g + i) = x_rowDue (18 * g + b)
        · by_cases w : x_rowPosition (18 * g + b) ≤ x_rowPosition (18 * g + i)
          · exact ⟨oK, gK, fun post hp => xK post hp (fun P h => xs P (by rw [if_pos e, if_pos w]; exact h)), fun post hp => yK post hp (fun z => es_ltne z e) (fun _ => w)⟩
          · exact ⟨oN, gN, fun post hp => xN post hp (fun P h => xs P (by rw [if_pos e, if_neg w]; exact h)), fun post hp => yN post hp (Or.inr ⟨e, w⟩)⟩
        · by_cases w : x_rowDue (18 * g + b) ≤ x_rowDue (18 * g + i)
          · exact ⟨oK, gK, fun post hp => xK post hp (fun P h => xs P (by rw [if_neg e, if_pos w]; exact h)), fun post hp => yK post hp (fun z => es_ltirr (es_ltle z w)) (fun z => absurd z e)⟩
          · exact ⟨oN, gN, fun post hp => xN post hp (fun P h => xs P (by rw [if_neg e, if_neg w]; exact h)), fun post hp => yN post hp (Or.inl (es_nle w))⟩
theorem em_due (_ : es_Q c f d L q (x_records, x_removedCount, x_flushed, x_drafted, x_height, x_time, x_foundAt, x_recordStream, x_recordType, x_recordVersion, x_recordValue, x_originProjection, x_originPosition, x_originInstruction, x_joined, x_removed, x_eventCount, x_cutLevel, x_draftType, x_draftValue, x_ops, x_arguments, x_programLength, x_states, x_noted, x_stack, x_metHeight, x_groupType, x_cursor, x_keptCursor, x_parked, x_rowCount, x_rowPosition, x_rowTimes, x_rowDue) (y_count, y_flushed, y_calls, y_drafted, y_top, x_time, y_isCut, y_removed, y_stream, y_type, y_from, y_by, y_value, y_version, y_on, y_call, y_draftType, y_draftValue, y_op, y_with, y_length, y_height, y_torn, y_stack, y_position, y_cells, y_noted, y_wanted, y_formed, y_cursor, y_parked, y_where, y_often, y_due, y_many, y_found)) (hg : g < 2) (h : es_Grp c f g nt nw nk u k x_cursor x_keptCursor x_rowCount x_rowPosition x_rowTimes x_rowDue y_cursor y_many y_where y_often y_due) :
    ∃ o : Option Nat, (∀ b, o = some b → b < nt) ∧ (∀ post : Int32 → Prop, post (es_ox o) → wpX_firstDue post (x_records, x_removedCount, x_flushed, x_drafted, x_height, x_time, x_foundAt, x_recordStream, x_recordType, x_recordVersion, x_recordValue, x_originProjection, x_originPosition, x_originInstruction, x_joined, x_removed, x_eventCount, x_cutLevel, x_draftType, x_draftValue, x_ops, x_arguments, x_programLength, x_states, x_noted, x_stack, x_metHeight, x_groupType, x_cursor, x_keptCursor, x_parked, x_rowCount, x_rowPosition, x_rowTimes, x_rowDue) (nI g)) ∧ (∀ post : Int32 → Prop, post (es_oy g o) → wpY_late post (y_count, y_flushed, y_calls, y_drafted, y_top, x_time, y_isCut, y_removed, y_stream, y_type, y_from, y_by, y_value, y_version, y_on, y_call, y_draftType, y_draftValue, y_op, y_with, y_length, y_height, y_torn, y_stack, y_position, y_cells, y_noted, y_wanted, y_formed, y_cursor, y_parked, y_where, y_often, y_due, y_many, y_found) (nI g)) := by
  obtain ⟨a0, a1, a2, a3, a4, a5⟩ := h
  obtain ⟨o, h1, h2, h3⟩ := em_due1 (x_time := x_time) hg (by omega) a2.1 a2.2.1 (fun i hi => (a3 i hi).2.1) a4 nt 0 (by omega) none (fun b e => by cases e)
  refine ⟨o, h1, fun post hp => nm_r (es_g3 g) (nm_r (e' := nI (18 * g)) (by rw [es_6, show 6 * (3 * g) = 18 * g by omega]) ⟨_, h2 post hp⟩), fun post hp => nm_r (es_8 g) ⟨_, h3 post hp⟩⟩
end
