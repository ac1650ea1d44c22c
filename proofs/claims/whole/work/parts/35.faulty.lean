section
/-! the check of the draft, in lockstep -/
variable {x_records x_removedCount x_flushed x_drafted x_height x_time x_foundAt : Int32} {x_recordStream x_recordType x_recordVersion x_recordValue x_originProjection x_originPosition x_originInstruction x_joined x_removed x_eventCount x_cutLevel x_draftType x_draftValue x_ops x_arguments x_programLength x_states x_noted x_stack x_metHeight x_groupType x_cursor x_keptCursor x_parked x_rowCount x_rowPosition x_rowTimes x_rowDue : Nat → Int32} {y_count y_flushed y_calls y_drafted y_top y_time : Int32} {y_isCut y_removed y_stream y_type y_from y_by y_value y_version y_on y_call y_draftType y_draftValue y_op y_with y_length y_height y_torn y_stack y_position y_cells y_noted y_wanted y_formed y_cursor y_parked y_where y_often y_due y_many y_found : Nat → Int32} {c f q : Nat} {cut rm str ty fr byi val ver onn call oi jn ec cl : Nat → Int32} {d : Nat} {L : Nat → Nat}
def es_o1 : Option Nat → Int32
  | none => -1
  | some b => nI b
theorem es_beh {h o : Nat} (htk : es_tk o ≤ h) : nI h - nI (es_tk o) + nI (es_gv o) = nI (h - es_tk o + es_gv o) := by
  rw [pk_sub htk, nI_add]
theorem es_tk2 {o : Nat} : es_tk o ≤ 2 := by
  unfold es_tk
  split <;> (try omega)
  split <;> (try omega)
  split <;> (try omega)
  split <;> omega
theorem es_gv2 {o : Nat} : es_gv o ≤ 2 := by
  unfold es_gv
  split <;> (try omega)
  split <;> omega
theorem es_sgn {h t : Nat} (hh : h ≤ 4) (ht : t ≤ 2) : nI h - nI t < 0 ↔ h < t := by
  have : ∀ (a : Fin 5) (b : Fin 3), (nI a.val - nI b.val < 0) ↔ a.val < b.val := by decide +kernel
  exact this ⟨h, by omega⟩ ⟨t, by omega⟩
theorem em_chk {n : Nat} (hn : n ≤ 14) (hop : ∀ i, i < n → x_ops (42 + i) = y_op (42 + i) ∧ x_arguments (42 + i) = y_with (42 + i)) (ho : ∀ i, i < n → ∃ o, o < 14 ∧ y_op (42 + i) = nI o) :
    ∀ m i, i + m = n → ∀ M he to : Nat → Int32, es_Chk n i (fun i => y_op (42 + i)) (fun i => y_with (42 + i)) M → es_Cr n M he to →
      ∃ (o : Option Nat) (M' he' to' : Nat → Int32), (o = none → es_OK n (fun i => y_op (42 + i)) (fun i => y_with (42 + i))) ∧ (∀ b, o = some b → b < n) ∧
        (∀ post : Int32 → SX → Prop, post (es_ox o) (x_records, x_removedCount, x_flushed, x_drafted, x_height, x_time, x_foundAt, x_recordStream, x_recordType, x_recordVersion, x_recordValue, x_originProjection, x_originPosition, x_originInstruction, x_joined, x_removed, x_eventCount, x_cutLevel, x_draftType, x_draftValue, x_ops, x_arguments, x_programLength, x_states, x_noted, x_stack, M', x_groupType, x_cursor, x_keptCursor, x_parked, x_rowCount, x_rowPosition, x_rowTimes, x_rowDue) → wX_firstFaulty_36 post (nI n) (m + 1) (nI i) x_records x_removedCount x_flushed x_drafted x_height x_time x_foundAt x_recordStream x_recordType x_recordVersion x_recordValue x_originProjection x_originPosition x_originInstruction x_joined x_removed x_eventCount x_cutLevel x_draftType x_draftValue x_ops x_arguments x_programLength x_states x_noted x_stack M x_groupType x_cursor x_keptCursor x_parked x_rowCount x_rowPosition x_rowTimes x_rowDue) ∧
        (∀ post : Int32 → SY → Prop, post (es_o1 o) (y_count, y_flushed, y_calls, y_drafted, y_top, y_time, y_isCut, y_removed, y_stream, y_type, y_from, y_by, y_value, y_version, y_on, y_call, y_draftType, y_draftValue, y_op, y_with, y_length, he', to', y_stack, y_position, y_cells, y_noted, y_wanted, y_formed, y_cursor, y_parked, y_where, y_often, y_due, y_many, y_found) → wY_faulty_44 post (nI n) (m + 1) (nI i) y_count y_flushed y_calls y_drafted y_top y_time y_isCut y_removed y_stream y_type y_from y_by y_value y_version y_on y_call y_draftType y_draftValue y_op y_with y_length he to y_stack y_position y_cells y_noted y_wanted y_formed y_cursor y_parked y_where y_often y_due y_many y_found) := by
  intro m
  induction m with
  | zero =>
    intro i hi M he to hK hC
    have e : i = n := by omega
    subst e
    exact ⟨none, M, he, to, fun _ => es_Chk_end hK, fun b e => (by cases e), fun post hp => br_t (Int32.le_refl _) hp, fun post hp => br_t (Int32.le_refl _) hp⟩
  | succ m ih =>
    intro i hi M he to hK hC
    have hin : i < n := by omega
    obtain ⟨o, ho14, eo⟩ := ho i hin
    have hx1 : x_ops (42 + i) = nI o := (hop i hin).1.trans eo
    have hx2 : x_arguments (42 + i) = y_with (42 + i) := (hop i hin).2
    have e42 : 42 + nI i = nI (42 + i) := nI_add 42 i
    have v42 : vp_in (42 + nI i) 56 := by rw [e42]; exact vp_in_nI (by omega) (by decide)
    have c42 : (42 + nI i).toNatClampNeg = 42 + i := by rw [e42, nI_clamp (by omega)]
    have v15 : vp_in (nI i) 15 := vp_in_nI (by omega) (by decide)
    have v16 : vp_in (nI i) 16 := vp_in_nI (by omega) (by decide)
    have ci : (nI i).toNatClampNeg = i := nI_clamp (by omega)
    have ni : ¬ nI n ≤ nI i := nI_ge hin (by omega)
    generalize hcc : y_with (42 + i) = cc at *
    -- both fall at i
    have bad : (∀ post : Int32 → SX → Prop, post (nI i) (x_records, x_removedCount, x_flushed, x_drafted, x_height, x_time, x_foundAt, x_recordStream, x_recordType, x_recordVersion, x_recordValue, x_originProjection, x_originPosition, x_originInstruction, x_joined, x_removed, x_eventCount, x_cutLevel, x_draftType, x_draftValue, x_ops, x_arguments, x_programLength, x_states, x_noted, x_stack, M, x_groupType, x_cursor, x_keptCursor, x_parked, x_rowCount, x_rowPosition, x_rowTimes, x_rowDue) → wX_firstFaulty_36 post (nI n) (m + 1 + 1) (nI i) x_records x_removedCount x_flushed x_drafted x_height x_time x_foundAt x_recordStream x_recordType x_recordVersion x_recordValue x_originProjection x_originPosition x_originInstruction x_joined x_removed x_eventCount x_cutLevel x_draftType x_draftValue x_ops x_arguments x_programLength x_states x_noted x_stack M x_groupType x_cursor x_keptCursor x_parked x_rowCount x_rowPosition x_rowTimes x_rowDue) → (∀ post : Int32 → SY → Prop, post (nI i) (y_count, y_flushed, y_calls, y_drafted, y_top, y_time, y_isCut, y_removed, y_stream, y_type, y_from, y_by, y_value, y_version, y_on, y_call, y_draftType, y_draftValue, y_op, y_with, y_length, he, to, y_stack, y_position, y_cells, y_noted, y_wanted, y_formed, y_cursor, y_parked, y_where, y_often, y_due, y_many, y_found) → wY_faulty_44 post (nI n) (m + 1 + 1) (nI i) y_count y_flushed y_calls y_drafted y_top y_time y_isCut y_removed y_stream y_type y_from y_by y_value y_version y_on y_call y_draftType y_draftValue y_op y_with y_length he to y_stack y_position y_cells y_noted y_wanted y_formed y_cursor y_parked y_where y_often y_due y_many y_found) →
        ∃ (o : Option Nat) (M' he' to' : Nat → Int32), (o = none → es_OK n (fun i => y_op (42 + i)) (fun i => y_with (42 + i))) ∧ (∀ b, o = some b → b < n) ∧
        (∀ post : Int32 → SX → Prop, post (es_ox o) (x_records, x_removedCount, x_flushed, x_drafted, x_height, x_time, x_foundAt, x_recordStream, x_recordType, x_recordVersion, x_recordValue, x_originProjection, x_originPosition, x_originInstruction, x_joined, x_removed, x_eventCount, x_cutLevel, x_draftType, x_draftValue, x_ops, x_arguments, x_programLength, x_states, x_noted, x_stack, M', x_groupType, x_cursor, x_keptCursor, x_parked, x_rowCount, x_rowPosition, x_rowTimes, x_rowDue) → wX_firstFaulty_36 post (nI n) (m + 1 + 1) (nI i) x_records x_removedCount x_flushed x_drafted x_height x_time x_foundAt x_recordStream x_recordType x_recordVersion x_recordValue x_originProjection x_originPosition x_originInstruction x_joined x_removed x_eventCount x_cutLevel x_draftType x_draftValue x_ops x_arguments x_programLength x_states x_noted x_stack M x_groupType x_cursor x_keptCursor x_parked x_rowCount x_rowPosition x_rowTimes x_rowDue) ∧
        (∀ post : Int32 → SY → Prop, post (es_o1 o) (y_count, y_flushed, y_calls, y_drafted, y_top, y_time, y_isCut, y_removed, y_stream, y_type, y_from, y_by, y_value, y_version, y_on, y_call, y_draftType, y_draftValue, y_op, y_with, y_length, he', to', y_stack, y_position, y_cells, y_noted, y_wanted, y_formed, y_cursor, y_parked, y_where, y_often, y_due, y_many, y_found) → wY_faulty_44 post (nI n) (m + 1 + 1) (nI i) y_count y_flushed y_calls y_drafted y_top y_time y_isCut y_removed y_stream y_type y_from y_by y_value y_version y_on y_call y_draftType y_draftValue y_op y_with y_length he to y_stack y_position y_cells y_noted y_wanted y_formed y_cursor y_parked y_where y_often y_due y_many y_found) :=
      fun hX hY => ⟨some i, M, he, to, fun e => (by cases e), fun b e => (by cases e; exact hin), hX, hY⟩
    by_cases hfit : es_fit o cc i n
    · rcases hC i (by omega) with ⟨t0, hMh, hr⟩ | ⟨t0, hM2, h, hh, hhe⟩
      · rcases hr with hr | ⟨h, hh, hhe⟩
        · -- not met
          obtain ⟨o', M', he', to', k1, k2, hX, hY⟩ := ih (i + 1) (by omega) M he to (es_Chk_un hK (hMh.trans hr)) hC
          refine ⟨o', M', he', to', k1, k2, fun post hp => br_f ni ⟨v42, nm_r (e' := nI o) (by rw [c42, hx1]) ⟨v42, nm_r (e' := cc) (by rw [c42, hx2]) (ex_fits ho14 hin hn (fun _ => br_f (by decide) ⟨v15, br_t (by rw [ci]; exact hMh.trans hr) (nm_r (nI_1 _) (hX post hp))⟩) (fun z => absurd hfit z))⟩⟩, fun post hp => br_f ni ⟨v42, nm_r (e' := nI o) (by rw [c42, eo]) ⟨v42, nm_r (e' := cc) (by rw [c42, hcc]) (ey_fits ho14 hin hn (fun _ x5 h5 => ⟨v16, nm_r (e' := (-1 : Int32)) (by rw [ci, hr]) (br_f (by decide) (nm_r (nI_1 _) (hY post hp)))⟩) (fun z => absurd hfit z))⟩⟩⟩
        · have hMi : M i = nI h := hMh.trans hhe
          have nm1 : ¬ M (nI i).toNatClampNeg = -1 := by rw [ci, hMi]; exact es_nm1 (by omega)
          have nm2 : ¬ M (nI i).toNatClampNeg = -2 := by rw [ci, hMi]; exact fun z => es_m2n (by omega) z.symm
          have g0 : (0 : Int32) ≤ nI h := nI_pos' (by omega)
          have t2 := es_tk2 (o := o)
          have v2 := es_gv2 (o := o)
          by_cases htk : h < es_tk o
          · exact bad (fun post hp => br_f ni ⟨v42, nm_r (e' := nI o) (by rw [c42, hx1]) ⟨v42, nm_r (e' := cc) (by rw [c42, hx2]) (ex_fits ho14 hin hn (fun _ => br_f (by decide) ⟨v15, br_f nm1 ⟨v15, ex_takes ho14 (nm_r (e' := nI h - nI (es_tk o)) (by rw [ci, hMi]) (ex_gives ho14 (nm_e ⟨v15, br_f nm2 (br_t ((es_sgn hh t2).mpr htk) hp)⟩)))⟩⟩) (fun z => absurd hfit z))⟩⟩) (fun post hp => br_f ni ⟨v42, nm_r (e' := nI o) (by rw [c42, eo]) ⟨v42, nm_r (e' := cc) (by rw [c42, hcc]) (ey_fits ho14 hin hn (fun _ x5 h5 => ⟨v16, nm_r (e' := nI h) (by rw [ci, hhe]) (br_t g0 (ey_takes ho14 (ey_gives ho14 (nm_e ⟨v16, br_t (by rw [ci]; exact t0) (ey_takes ho14 (br_t (nI_lt htk (by omega)) hp))⟩))))⟩) (fun z => absurd hfit z))⟩⟩)
          · have nlt : ¬ nI h - nI (es_tk o) < 0 := fun z => htk ((es_sgn hh t2).mp z)
            have nlt2 : ¬ nI h < nI (es_tk o) := nI_nlt (by omega) (by omega)
            have eb := es_beh (h := h) (o := o) (by omega)
            by_cases hb4 : h - es_tk o + es_gv o ≤ 4
            · have le4 : nI (h - es_tk o + es_gv o) ≤ 4 := nI_le (b := 4) hb4 (by decide)
              obtain ⟨MA, heA, toA, hKA, hCA, hXA, hYA⟩ := em_fol (op := fun i => y_op (42 + i)) (wi := fun i => y_with (42 + i)) (i := i) (y_height := he) (y_torn := to) ho14 eo hcc hin hn hfit rfl hb4 (by omega) hh hK hMi hC
              obtain ⟨o', M', he', to', k1, k2, hX, hY⟩ := ih (i + 1) (by omega) MA heA toA hKA hCA
              refine ⟨o', M', he', to', k1, k2, fun post hp => br_f ni ⟨v42, nm_r (e' := nI o) (by rw [c42, hx1]) ⟨v42, nm_r (e' := cc) (by rw [c42, hx2]) (ex_fits ho14 hin hn (fun _ => br_f (by decide) ⟨v15, br_f nm1 ⟨v15, ex_takes ho14 (nm_r (e' := nI h - nI (es_tk o)) (by rw [ci, hMi]) (ex_gives ho14 (nm_e ⟨v15, br_f nm2 (br_f nlt ?_)⟩)))⟩⟩) (fun z => absurd hfit z))⟩⟩, fun post hp => br_f ni ⟨v42, nm_r (e' := nI o) (by rw [c42, eo]) ⟨v42, nm_r (e' := cc) (by rw [c42, hcc]) (ey_fits ho14 hin hn (fun _ x5 h5 => ⟨v16, nm_r (e' := nI h) (by rw [ci, hhe]) (br_t g0 (ey_takes ho14 (ey_gives ho14 (nm_e ⟨v16, br_t (by rw [ci]; exact t0) (ey_takes ho14 (br_f nlt2 ?_))⟩))))⟩) (fun z => absurd hfit z))⟩⟩⟩
              · rw [eb]
                exact br_t le4 (hXA _ (nm_r (nI_1 _) (hX post hp)))
              · rw [eb]
                exact br_t le4 (hYA post (fun x2 v => match v with | (y_count, y_flushed, y_calls, y_drafted, y_top, y_time, y_isCut, y_removed, y_stream, y_type, y_from, y_by, y_value, y_version, y_on, y_call, y_draftType, y_draftValue, y_op, y_with, y_length, y_height, y_torn, y_stack, y_position, y_cells, y_noted, y_wanted, y_formed, y_cursor, y_parked, y_where, y_often, y_due, y_many, y_found) => wY_faulty_44 post (nI n) (m + 1) x2 y_count y_flushed y_calls y_drafted y_top y_time y_isCut y_removed y_stream y_type y_from y_by y_value y_version y_on y_call y_draftType y_draftValue y_op y_with y_length y_height y_torn y_stack y_position y_cells y_noted y_wanted y_formed y_cursor y_parked y_where y_often y_due y_many y_found) x5 h5 (hY post hp))
            · have gt4 : ¬ nI (h - es_tk o + es_gv o) ≤ 4 := nI_ge (a := 4) (by omega) (by omega)
              refine bad (fun post hp => br_f ni ⟨v42, nm_r (e' := nI o) (by rw [c42, hx1]) ⟨v42, nm_r (e' := cc) (by rw [c42, hx2]) (ex_fits ho14 hin hn (fun _ => br_f (by decide) ⟨v15, br_f nm1 ⟨v15, ex_takes ho14 (nm_r (e' := nI h - nI (es_tk o)) (by rw [ci, hMi]) (ex_gives ho14 (nm_e ⟨v15, br_f nm2 (br_f nlt ?_)⟩)))⟩⟩) (fun z => absurd hfit z))⟩⟩) (fun post hp => br_f ni ⟨v42, nm_r (e' := nI o) (by rw [c42, eo]) ⟨v42, nm_r (e' := cc) (by rw [c42, hcc]) (ey_fits ho14 hin hn (fun _ x5 h5 => ⟨v16, nm_r (e' := nI h) (by rw [ci, hhe]) (br_t g0 (ey_takes ho14 (ey_gives ho14 (nm_e ⟨v16, br_t (by rw [ci]; exact t0) (ey_takes ho14 (br_f nlt2 ?_))⟩))))⟩) (fun z => absurd hfit z))⟩⟩)
              · rw [eb]; exact br_f gt4 hp
              · rw [eb]; exact br_f gt4 hp
      · -- torn
        have nm1 : ¬ M (nI i).toNatClampNeg = -1 := by rw [ci, hM2]; decide
        have m2 : M (nI i).toNatClampNeg = -2 := by rw [ci, hM2]
        refine bad (fun post hp => br_f ni ⟨v42, nm_r (e' := nI o) (by rw [c42, hx1]) ⟨v42, nm_r (e' := cc) (by rw [c42, hx2]) (ex_fits ho14 hin hn (fun _ => br_f (by decide) ⟨v15, br_f nm1 ⟨v15, ex_takes ho14 (nm_e (ex_gives ho14 (nm_e ⟨v15, br_t m2 hp⟩)))⟩⟩) (fun z => absurd hfit z))⟩⟩) (fun post hp => br_f ni ⟨v42, nm_r (e' := nI o) (by rw [c42, eo]) ⟨v42, nm_r (e' := cc) (by rw [c42, hcc]) (ey_fits ho14 hin hn (fun _ x5 h5 => ⟨v16, nm_r (e' := nI h) (by rw [ci, hhe]) (br_t (nI_pos' (by omega)) (ey_takes ho14 (ey_gives ho14 (nm_e ⟨v16, br_f (by rw [ci]; exact t0) hp⟩))))⟩) (fun z => absurd hfit z))⟩⟩)
    · exact bad (fun post hp => br_f ni ⟨v42, nm_r (e' := nI o) (by rw [c42, hx1]) ⟨v42, nm_r (e' := cc) (by rw [c42, hx2]) (ex_fits ho14 hin hn (fun z => absurd z hfit) (fun _ => br_t rfl hp))⟩⟩) (fun post hp => br_f ni ⟨v42, nm_r (e' := nI o) (by rw [c42, eo]) ⟨v42, nm_r (e' := cc) (by rw [c42, hcc]) (ey_fits ho14 hin hn (fun z => absurd z hfit) (fun _ => hp))⟩⟩)
end
