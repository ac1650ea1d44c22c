section
/-! what a flush keeps of a group -/
variable {x_records x_removedCount x_flushed x_drafted x_height x_time x_foundAt : Int32} {x_recordStream x_recordType x_recordVersion x_recordValue x_originProjection x_originPosition x_originInstruction x_joined x_removed x_eventCount x_cutLevel x_draftType x_draftValue x_ops x_arguments x_programLength x_states x_noted x_stack x_metHeight x_groupType x_cursor x_keptCursor x_parked x_rowCount x_rowPosition x_rowTimes x_rowDue : Nat → Int32} {y_count y_flushed y_calls y_drafted y_top y_time : Int32} {y_isCut y_removed y_stream y_type y_from y_by y_value y_version y_on y_call y_draftType y_draftValue y_op y_with y_length y_height y_torn y_stack y_position y_cells y_noted y_wanted y_formed y_cursor y_parked y_where y_often y_due y_many y_found : Nat → Int32} {c f q : Nat} {cut rm str ty fr byi val ver onn call oi jn ec cl : Nat → Int32} {d : Nat} {L : Nat → Nat} {g nt nw nk u k : Nat}
theorem es_Grp_ik {cu kc rn rp rt rd cv mn wh oft du : Nat → Int32} {a j : Nat} {tm : Int32} (H : es_Grp c f g nt nw nk u k cu kc rn rp rt rd cv mn wh oft du) (hg : g < 2) (hn : nk < 6) (ha : a < k) (hj : j ≤ nk)
    (h1 : ∀ i, i < j → rp (18 * g + 12 + i) < nI a) (h2 : ∀ i, j ≤ i → i < nk → nI a < rp (18 * g + 12 + i)) :
    es_Grp c f g nt nw (nk + 1) u k cu kc (upd rn (3 * g + 2) (nI (nk + 1))) (upd (es_ins rp (18 * g + 12 + j) (18 * g + 12 + nk)) (18 * g + 12 + j) (nI a)) (upd (es_ins rt (18 * g + 12 + j) (18 * g + 12 + nk)) (18 * g + 12 + j) tm) rd
      cv (upd mn (4 + g) (nI (nk + 1))) (upd (es_ins wh (32 + 8 * g + j) (32 + 8 * g + nk)) (32 + 8 * g + j) (nI a)) (upd (es_ins oft (32 + 8 * g + j) (32 + 8 * g + nk)) (32 + 8 * g + j) tm) du := by
  obtain ⟨a0, a1, a2, a3, a4, a5, a6, a7, a8, a9, a10⟩ := H
  have p0 : ∀ i, i < nt → upd (es_ins rp (18 * g + 12 + j) (18 * g + 12 + nk)) (18 * g + 12 + j) (nI a) (18 * g + i) = rp (18 * g + i) := fun i hi => es_ins_f hj (by omega)
  have p1 : ∀ i, i < nw → upd (es_ins rp (18 * g + 12 + j) (18 * g + 12 + nk)) (18 * g + 12 + j) (nI a) (18 * g + 6 + i) = rp (18 * g + 6 + i) := fun i hi => es_ins_f hj (by omega)
  refine ⟨⟨a0.1, a0.2.1, a0.2.2.1, by omega⟩, a1, ?_, es_Row_c a3 (fun i hi => ⟨p0 i hi, es_ins_f hj (by omega), es_ins_f hj (by omega), es_ins_f hj (by omega)⟩), a4, es_Row_c a5 (fun i hi => ⟨p1 i hi, es_ins_f hj (by omega), es_ins_f hj (by omega), es_ins_f hj (by omega)⟩), es_Row_i a6 hj ha, es_Dis_c a7 p0, es_Dis_c a8 p1, es_Di2_c a9 p0 p1, es_Srt_i a10 hj h1 h2⟩
  rw [pk_us, pk_us, pk_un (by omega), pk_un (by omega), pk_un (by omega), pk_un (by omega)]
  exact ⟨a2.1, a2.2.1, a2.2.2.1, a2.2.2.2.1, rfl, rfl⟩
/-- the kept row of group g as far as it has grown: na of T, nb of W -/
def es_KI (c d : Nat) (L : Nat → Nat) (q g nt nw u : Nat) (T W : Nat → Int32) (na nb : Nat) (s : SX) (v : SY) : Prop :=
  es_Q c c d L q s v ∧ match s with | (x_records, x_removedCount, x_flushed, x_drafted, x_height, x_time, x_foundAt, x_recordStream, x_recordType, x_recordVersion, x_recordValue, x_originProjection, x_originPosition, x_originInstruction, x_joined, x_removed, x_eventCount, x_cutLevel, x_draftType, x_draftValue, x_ops, x_arguments, x_programLength, x_states, x_noted, x_stack, x_metHeight, x_groupType, x_cursor, x_keptCursor, x_parked, x_rowCount, x_rowPosition, x_rowTimes, x_rowDue) => match v with | (y_count, y_flushed, y_calls, y_drafted, y_top, y_time, y_isCut, y_removed, y_stream, y_type, y_from, y_by, y_value, y_version, y_on, y_call, y_draftType, y_draftValue, y_op, y_with, y_length, y_height, y_torn, y_stack, y_position, y_cells, y_noted, y_wanted, y_formed, y_cursor, y_parked, y_where, y_often, y_due, y_many, y_found) => (y_formed g = 0 → nt = 0) ∧ es_Grp c c g nt nw (na + nb) u u x_cursor x_keptCursor x_rowCount x_rowPosition x_rowTimes x_rowDue y_cursor y_many y_where y_often y_due ∧
    (∀ i, i < nt → x_rowPosition (18 * g + i) = T i) ∧ (∀ i, i < nw → x_rowPosition (18 * g + 6 + i) = W i) ∧
    (∀ j, j < na + nb → (∃ i, i < na ∧ x_rowPosition (18 * g + 12 + j) = T i) ∨ (∃ i, i < nb ∧ x_rowPosition (18 * g + 12 + j) = W i))
/-- one entry more -/
theorem em_kins {T W : Nat → Int32} {na nb na' nb' r i a : Nat} {x tm : Int32} (H : es_KI c d L q g nt nw u T W na nb (x_records, x_removedCount, x_flushed, x_drafted, x_height, x_time, x_foundAt, x_recordStream, x_recordType, x_recordVersion, x_recordValue, x_originProjection, x_originPosition, x_originInstruction, x_joined, x_removed, x_eventCount, x_cutLevel, x_draftType, x_draftValue, x_ops, x_arguments, x_programLength, x_states, x_noted, x_stack, x_metHeight, x_groupType, x_cursor, x_keptCursor, x_parked, x_rowCount, x_rowPosition, x_rowTimes, x_rowDue) (y_count, y_flushed, y_calls, y_drafted, y_top, y_time, y_isCut, y_removed, y_stream, y_type, y_from, y_by, y_value, y_version, y_on, y_call, y_draftType, y_draftValue, y_op, y_with, y_length, y_height, y_torn, y_stack, y_position, y_cells, y_noted, y_wanted, y_formed, y_cursor, y_parked, y_where, y_often, y_due, y_many, y_found)) (hg : g < 2) (hn : na + nb < 6) (hna : na' + nb' = na + nb + 1) (hm1 : na ≤ na') (hm2 : nb ≤ nb')
    (hr : r < 6) (hi : i < 6) (ha : a < u) (hx : x = nI a) (dT : ∀ i, i < na → ¬ T i = x) (dW : ∀ i, i < nb → ¬ W i = x) (hnew : (∃ i, i < na' ∧ x = T i) ∨ (∃ i, i < nb' ∧ x = W i)) (htm : x_rowTimes (6 * r + i) = tm) :
    ∃ (u' : SX) (v' : SY), es_KI c d L q g nt nw u T W na' nb' u' v' ∧
      (∀ (post : SX → Prop) (K : Int32 → SX → Prop), K (nI (i + 1)) u' → ∃ n, wX_keepRow_44 post ((fun a z_records z_removedCount z_flushed z_drafted z_height z_time z_foundAt z_recordStream z_recordType z_recordVersion z_recordValue z_originProjection z_originPosition z_originInstruction z_joined z_removed z_eventCount z_cutLevel z_draftType z_draftValue z_ops z_arguments z_programLength z_states z_noted z_stack z_metHeight z_groupType z_cursor z_keptCursor z_parked z_rowCount z_rowPosition z_rowTimes z_rowDue => K a (z_records, z_removedCount, z_flushed, z_drafted, z_height, z_time, z_foundAt, z_recordStream, z_recordType, z_recordVersion, z_recordValue, z_originProjection, z_originPosition, z_originInstruction, z_joined, z_removed, z_eventCount, z_cutLevel, z_draftType, z_draftValue, z_ops, z_arguments, z_programLength, z_states, z_noted, z_stack, z_metHeight, z_groupType, z_cursor, z_keptCursor, z_parked, z_rowCount, z_rowPosition, z_rowTimes, z_rowDue))) (nI r) (nI (3 * g + 2)) (nI i) x x_records x_removedCount x_flushed x_drafted x_height x_time x_foundAt x_recordStream x_recordType x_recordVersion x_recordValue x_originProjection x_originPosition x_originInstruction x_joined x_removed x_eventCount x_cutLevel x_draftType x_draftValue x_ops x_arguments x_programLength x_states x_noted x_stack x_metHeight x_groupType x_cursor x_keptCursor x_parked x_rowCount x_rowPosition x_rowTimes x_rowDue n 0) ∧
      (∀ post : SY → Prop, post v' → wpY_insert post (y_count, y_flushed, y_calls, y_drafted, y_top, y_time, y_isCut, y_removed, y_stream, y_type, y_from, y_by, y_value, y_version, y_on, y_call, y_draftType, y_draftValue, y_op, y_with, y_length, y_height, y_torn, y_stack, y_position, y_cells, y_noted, y_wanted, y_formed, y_cursor, y_parked, y_where, y_often, y_due, y_many, y_found) (nI (4 + g)) x tm) := by
  subst hx
  obtain ⟨⟨hL, hD, hP, hS, hG, hF⟩, hz, hgr, hT, hW, hM⟩ := H
  have hk2 := hgr.2.2.1
  obtain ⟨j, hj, h1, h2⟩ := es_place hgr.2.2.2.2.2.2.2.2.2.2 (x := nI a) (fun j hj => by
    rcases hM j hj with ⟨i, hi, e⟩ | ⟨i, hi, e⟩
    · rw [e]; exact dT i hi
    · rw [e]; exact dW i hi)
  have hgr' := es_Grp_ik (tm := tm) hgr hg hn ha hj h1 h2
  have hpk := hG.1
  have hG' := es_RG_set (pk' := y_parked) hG hg hz hgr' (fun e he => ?_) (fun e he => pk_un (by omega)) (fun e _ _ h => pk_un h) (fun e _ _ h3 => ?_) (fun e _ => ⟨rfl, rfl⟩) (fun e _ _ => rfl)
  subst hpk
  refine ⟨(x_records, x_removedCount, x_flushed, x_drafted, x_height, x_time, x_foundAt, x_recordStream, x_recordType, x_recordVersion, x_recordValue, x_originProjection, x_originPosition, x_originInstruction, x_joined, x_removed, x_eventCount, x_cutLevel, x_draftType, x_draftValue, x_ops, x_arguments, x_programLength, x_states, x_noted, x_stack, x_metHeight, x_groupType, x_cursor, x_keptCursor, y_parked, upd x_rowCount (3 * g + 2) (nI (na + nb + 1)), upd (es_ins x_rowPosition (18 * g + 12 + j) (18 * g + 12 + (na + nb))) (18 * g + 12 + j) (nI a), upd (es_ins x_rowTimes (18 * g + 12 + j) (18 * g + 12 + (na + nb))) (18 * g + 12 + j) tm, x_rowDue), (y_count, y_flushed, y_calls, y_drafted, y_top, y_time, y_isCut, y_removed, y_stream, y_type, y_from, y_by, y_value, y_version, y_on, y_call, y_draftType, y_draftValue, y_op, y_with, y_length, y_height, y_torn, y_stack, y_position, y_cells, y_noted, y_wanted, y_formed, y_cursor, y_parked, upd (es_ins y_where (32 + 8 * g + j) (32 + 8 * g + (na + nb))) (32 + 8 * g + j) (nI a), upd (es_ins y_often (32 + 8 * g + j) (32 + 8 * g + (na + nb))) (32 + 8 * g + j) tm, y_due, upd y_many (4 + g) (nI (na + nb + 1)), y_found), ⟨⟨hL, hD, hP, hS, hG', hF⟩, hz, ?_, fun i hi => ?_, fun i hi => ?_, fun e he => ?_⟩, fun post K hK => ?_, fun post hp => ?_⟩
  · rw [hna]; exact hgr'
  · rw [es_ins_f hj (by have := hgr.1.2.2.1; omega)]; exact hT i hi
  · rw [es_ins_f hj (by have := hgr.1.2.2.1; omega)]; exact hW i hi
  · rw [hna] at he
    rcases es_ins_w (b := 18 * g + 12) x_rowPosition (nI a) hj e he with ⟨f1, f2⟩ | ⟨e', b1, b2, b3, b4, b5⟩
    · rw [f2]; exact hnew
    · rw [b5]
      rcases hM e' b1 with ⟨i, hi, y⟩ | ⟨i, hi, y⟩
      · exact Or.inl ⟨i, by omega, y⟩
      · exact Or.inr ⟨i, by omega, y⟩
  · have vx : vp_in (nI (3 * g + 2)) 6 := vp_in_nI (by omega) (by decide)
    have cx : (nI (3 * g + 2)).toNatClampNeg = 3 * g + 2 := nI_clamp (by omega)
    have vr : vp_in (nI r * 6 + nI i) 36 := by rw [es_6, nI_add]; exact vp_in_nI (by omega) (by decide)
    have cr : (nI r * 6 + nI i).toNatClampNeg = 6 * r + i := by rw [es_6, nI_add, nI_clamp (by omega)]
    have fin : wX_keepRow_80 post ((fun a z_records z_removedCount z_flushed z_drafted z_height z_time z_foundAt z_recordStream z_recordType z_recordVersion z_recordValue z_originProjection z_originPosition z_originInstruction z_joined z_removed z_eventCount z_cutLevel z_draftType z_draftValue z_ops z_arguments z_programLength z_states z_noted z_stack z_metHeight z_groupType z_cursor z_keptCursor z_parked z_rowCount z_rowPosition z_rowTimes z_rowDue => K a (z_records, z_removedCount, z_flushed, z_drafted, z_height, z_time, z_foundAt, z_recordStream, z_recordType, z_recordVersion, z_recordValue, z_originProjection, z_originPosition, z_originInstruction, z_joined, z_removed, z_eventCount, z_cutLevel, z_draftType, z_draftValue, z_ops, z_arguments, z_programLength, z_states, z_noted, z_stack, z_metHeight, z_groupType, z_cursor, z_keptCursor, z_parked, z_rowCount, z_rowPosition, z_rowTimes, z_rowDue))) (nI r) (nI (3 * g + 2)) (nI i) (nI a) (nI j) x_records x_removedCount x_flushed x_drafted x_height x_time x_foundAt x_recordStream x_recordType x_recordVersion x_recordValue x_originProjection x_originPosition x_originInstruction x_joined x_removed x_eventCount x_cutLevel x_draftType x_draftValue x_ops x_arguments x_programLength x_states x_noted x_stack x_metHeight x_groupType x_cursor x_keptCursor y_parked x_rowCount x_rowPosition x_rowTimes x_rowDue := by
      refine ⟨vr, ?_⟩
      rw [cr, htm]
      exact ex_insert (b := 18 * g + 12) (by omega) (by omega) hk2.2.2.2.2.1 hj hn (nm_r (nI_1 _) hK)
    refine pk_loop (fun n e (_ : Unit) => wX_keepRow_44 post ((fun a z_records z_removedCount z_flushed z_drafted z_height z_time z_foundAt z_recordStream z_recordType z_recordVersion z_recordValue z_originProjection z_originPosition z_originInstruction z_joined z_removed z_eventCount z_cutLevel z_draftType z_draftValue z_ops z_arguments z_programLength z_states z_noted z_stack z_metHeight z_groupType z_cursor z_keptCursor z_parked z_rowCount z_rowPosition z_rowTimes z_rowDue => K a (z_records, z_removedCount, z_flushed, z_drafted, z_height, z_time, z_foundAt, z_recordStream, z_recordType, z_recordVersion, z_recordValue, z_originProjection, z_originPosition, z_originInstruction, z_joined, z_removed, z_eventCount, z_cutLevel, z_draftType, z_draftValue, z_ops, z_arguments, z_programLength, z_states, z_noted, z_stack, z_metHeight, z_groupType, z_cursor, z_keptCursor, z_parked, z_rowCount, z_rowPosition, z_rowTimes, z_rowDue))) (nI r) (nI (3 * g + 2)) (nI i) (nI a) x_records x_removedCount x_flushed x_drafted x_height x_time x_foundAt x_recordStream x_recordType x_recordVersion x_recordValue x_originProjection x_originPosition x_originInstruction x_joined x_removed x_eventCount x_cutLevel x_draftType x_draftValue x_ops x_arguments x_programLength x_states x_noted x_stack x_metHeight x_groupType x_cursor x_keptCursor y_parked x_rowCount x_rowPosition x_rowTimes x_rowDue n (nI e)) (fun e _ => True) j 0 () (by omega) trivial ?_ ?_
    · intro n _ _
      refine ⟨vx, ?_⟩
      rw [cx, hk2.2.2.2.2.1]
      by_cases z : j = na + nb
      · exact br_t (nI_le (by omega) (by omega)) fin
      · refine br_f (nI_ge (by omega) (by omega)) ?_
        rw [es_6, nI_add, nI_clamp (by omega), show 6 * (3 * g + 2) + j = 18 * g + 12 + j by omega]
        refine ⟨vp_in_nI (by omega) (by decide), br_t ?_ fin⟩
        exact es_nlt (es_ltas (h2 j (Nat.le_refl j) (by omega)))
    · intro n e _ he _ ih
      refine ⟨vx, ?_⟩
      rw [cx, hk2.2.2.2.2.1]
      refine br_f (nI_ge (by omega) (by omega)) ?_
      rw [es_6, nI_add, nI_clamp (by omega), show 6 * (3 * g + 2) + e = 18 * g + 12 + e by omega]
      exact ⟨vp_in_nI (by omega) (by decide), br_f (fun z => es_ltirr (es_ltle (h1 e he) z)) (nm_r (nI_1 _) (ih () trivial))⟩
  · have hrow := hgr.2.2.2.2.2.2.1
    refine ey_insert (b := 32 + 8 * g) (by omega) (by omega) hk2.2.2.2.2.2 hj hn (fun h0 => ?_) (fun e he1 he2 => ?_) hp
    · have := (hrow (j - 1) (by omega)).2.1
      rw [show 32 + 8 * g + (j - 1) = 32 + 8 * g + j - 1 by omega] at this
      rw [this]
      exact es_nlt (es_ltas (h1 (j - 1) (by omega)))
    · rw [(hrow e he2).2.1]
      exact fun z => es_ltirr (es_ltle (h2 e he1 he2) z)
  · rw [es_ins_f hj (by omega), es_ins_f hj (by omega)]; exact ⟨rfl, rfl, rfl⟩
  · rw [es_ins_f hj (by omega), es_ins_f hj (by omega)]; exact ⟨rfl, rfl, rfl⟩
end
