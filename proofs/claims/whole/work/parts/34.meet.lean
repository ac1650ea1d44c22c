section
/-! heights are met, on both sides -/
variable {x_records x_removedCount x_flushed x_drafted x_height x_time x_foundAt : Int32} {x_recordStream x_recordType x_recordVersion x_recordValue x_originProjection x_originPosition x_originInstruction x_joined x_removed x_eventCount x_cutLevel x_draftType x_draftValue x_ops x_arguments x_programLength x_states x_noted x_stack x_metHeight x_groupType x_cursor x_keptCursor x_parked x_rowCount x_rowPosition x_rowTimes x_rowDue : Nat → Int32} {y_count y_flushed y_calls y_drafted y_top y_time : Int32} {y_isCut y_removed y_stream y_type y_from y_by y_value y_version y_on y_call y_draftType y_draftValue y_op y_with y_length y_height y_torn y_stack y_position y_cells y_noted y_wanted y_formed y_cursor y_parked y_where y_often y_due y_many y_found : Nat → Int32} {c f q : Nat} {cut rm str ty fr byi val ver onn call oi jn ec cl : Nat → Int32}
def es_Cr (n : Nat) (M he to : Nat → Int32) : Prop := ∀ j, j ≤ n → (to j = 0 ∧ M j = he j ∧ (he j = -1 ∨ ∃ h, h ≤ 4 ∧ he j = nI h)) ∨ (¬ to j = 0 ∧ M j = -2 ∧ ∃ h, h ≤ 4 ∧ he j = nI h)
theorem ex_meet {pst : SX → Prop} {j b : Nat} (hj : j < 15) (hp : pst (x_records, x_removedCount, x_flushed, x_drafted, x_height, x_time, x_foundAt, x_recordStream, x_recordType, x_recordVersion, x_recordValue, x_originProjection, x_originPosition, x_originInstruction, x_joined, x_removed, x_eventCount, x_cutLevel, x_draftType, x_draftValue, x_ops, x_arguments, x_programLength, x_states, x_noted, x_stack, es_met x_metHeight j b, x_groupType, x_cursor, x_keptCursor, x_parked, x_rowCount, x_rowPosition, x_rowTimes, x_rowDue)) : wpX_meet pst (x_records, x_removedCount, x_flushed, x_drafted, x_height, x_time, x_foundAt, x_recordStream, x_recordType, x_recordVersion, x_recordValue, x_originProjection, x_originPosition, x_originInstruction, x_joined, x_removed, x_eventCount, x_cutLevel, x_draftType, x_draftValue, x_ops, x_arguments, x_programLength, x_states, x_noted, x_stack, x_metHeight, x_groupType, x_cursor, x_keptCursor, x_parked, x_rowCount, x_rowPosition, x_rowTimes, x_rowDue) (nI j) (nI b) := by
  have cj : (nI j).toNatClampNeg = j := nI_clamp (by omega)
  have vj : vp_in (nI j) 15 := vp_in_nI hj (by decide)
  refine ⟨vj, ?_⟩
  rw [cj]
  by_cases z : x_metHeight j = -1
  · refine br_t z ⟨vj, nm_r (e' := es_met x_metHeight j b) ?_ hp⟩
    unfold es_met
    rw [if_pos z]
  · by_cases w : x_metHeight j = nI b
    · refine br_f z ⟨vj, br_t w ?_⟩
      have e : es_met x_metHeight j b = x_metHeight := by
        unfold es_met
        rw [if_neg z, if_pos w]; exact es_upd0 w
      rw [e] at hp
      exact hp
    · refine br_f z ⟨vj, br_f w ⟨vj, nm_r (e' := es_met x_metHeight j b) ?_ hp⟩⟩
      unfold es_met
      rw [if_neg z, if_neg w]
/-- the reference meets what the component meets -/
theorem em_meet {M : Nat → Int32} {n j b : Nat} (hC : es_Cr n M y_height y_torn) (hj : j ≤ n) (hn : n ≤ 14) (hb : b ≤ 4) :
    ∃ he to, es_Cr n (es_met M j b) he to ∧ ∀ pst : SY → Prop, pst (y_count, y_flushed, y_calls, y_drafted, y_top, y_time, y_isCut, y_removed, y_stream, y_type, y_from, y_by, y_value, y_version, y_on, y_call, y_draftType, y_draftValue, y_op, y_with, y_length, he, to, y_stack, y_position, y_cells, y_noted, y_wanted, y_formed, y_cursor, y_parked, y_where, y_often, y_due, y_many, y_found) → wpY_meet pst (y_count, y_flushed, y_calls, y_drafted, y_top, y_time, y_isCut, y_removed, y_stream, y_type, y_from, y_by, y_value, y_version, y_on, y_call, y_draftType, y_draftValue, y_op, y_with, y_length, y_height, y_torn, y_stack, y_position, y_cells, y_noted, y_wanted, y_formed, y_cursor, y_parked, y_where, y_often, y_due, y_many, y_found) (nI j) (nI b) := by
  have cj : (nI j).toNatClampNeg = j := nI_clamp (by omega)
  have vj : vp_in (nI j) 16 := vp_in_nI (by omega) (by decide)
  have hnb := es_nar b (by omega)
  rcases hC j hj with ⟨h1, h2, h3⟩ | ⟨h1, h2, h, hh, h3⟩
  · rcases h3 with h3 | ⟨h, hh, h3⟩
    · refine ⟨upd y_height j (nI b), y_torn, fun i hi => ?_, fun pst hp => ⟨vj, ?_⟩⟩
      · by_cases e : i = j
        · subst e
          unfold es_met
          rw [pk_us, pk_us, h2, if_pos h3]
          exact Or.inl ⟨h1, rfl, Or.inr ⟨b, hb, rfl⟩⟩
        · rw [es_met_o e, pk_un e]; exact hC i hi
      · rw [cj, h3]
        exact br_f (by decide) ⟨vj, nm_r (e' := upd y_height j (nI b)) (by rw [hnb.2, hnb.1]) hp⟩
    · have g0 : (0 : Int32) ≤ nI h := nI_pos' (by omega)
      by_cases e : h = b
      · subst e
        refine ⟨y_height, y_torn, fun i hi => ?_, fun pst hp => ⟨vj, ?_⟩⟩
        · by_cases e : i = j
          · subst e
            unfold es_met
            rw [pk_us, h2, h3, if_neg (fun z => es_m1n (by omega) z.symm), if_pos rfl]
            exact Or.inl ⟨h1, rfl, Or.inr ⟨h, hh, rfl⟩⟩
          · rw [es_met_o e]; exact hC i hi
        · rw [cj, h3]
          exact br_t g0 ⟨vj, br_t rfl hp⟩
      · have ne : ¬ nI h = nI b := fun z => e (es_inj z (by omega) (by omega))
        refine ⟨y_height, upd y_torn j 1, fun i hi => ?_, fun pst hp => ⟨vj, ?_⟩⟩
        · by_cases e : i = j
          · subst e
            unfold es_met
            rw [pk_us, pk_us, h2, h3, if_neg (fun z => es_m1n (by omega) z.symm), if_neg ne]
            exact Or.inr ⟨by decide, rfl, h, hh, rfl⟩
          · rw [es_met_o e, pk_un e]; exact hC i hi
        · rw [cj, h3]
          exact br_t g0 ⟨vj, br_f ne ⟨vj, nm_r (e' := upd y_torn j 1) (by rw [es_nb1]) hp⟩⟩
  · have g0 : (0 : Int32) ≤ nI h := nI_pos' (by omega)
    have em : es_met M j b j = -2 := by
      unfold es_met
      rw [pk_us, h2, if_neg (by decide), if_neg (es_m2n (by omega))]
    by_cases e : h = b
    · subst e
      refine ⟨y_height, y_torn, fun i hi => ?_, fun pst hp => ⟨vj, ?_⟩⟩
      · by_cases e : i = j
        · subst e
          rw [em]; exact Or.inr ⟨h1, rfl, h, hh, h3⟩
        · rw [es_met_o e]; exact hC i hi
      · rw [cj, h3]
        exact br_t g0 ⟨vj, br_t rfl hp⟩
    · have ne : ¬ nI h = nI b := fun z => e (es_inj z (by omega) (by omega))
      refine ⟨y_height, upd y_torn j 1, fun i hi => ?_, fun pst hp => ⟨vj, ?_⟩⟩
      · by_cases e : i = j
        · subst e
          rw [em, pk_us]; exact Or.inr ⟨by decide, rfl, h, hh, h3⟩
        · rw [es_met_o e, pk_un e]; exact hC i hi
      · rw [cj, h3]
        exact br_t g0 ⟨vj, br_f ne ⟨vj, nm_r (e' := upd y_torn j 1) (by rw [es_nb1]) hp⟩⟩
/-- the followers of instruction i, met with b -/
theorem em_fol {op wi M : Nat → Int32} {n i o b h : Nat} {cc : Int32} (ho : o < 14) (hop : op i = nI o) (hwi : wi i = cc) (hi : i < n) (hn : n ≤ 14) (hfit : es_fit o cc i n) (hb : b = h - es_tk o + es_gv o) (hb4 : b ≤ 4) (htk : es_tk o ≤ h) (hh : h ≤ 4)
    (hK : es_Chk n i op wi M) (hMi : M i = nI h) (hC : es_Cr n M y_height y_torn) :
    ∃ M' he to, es_Chk n (i + 1) op wi M' ∧ es_Cr n M' he to ∧
      (∀ pst : SX → Prop, pst (x_records, x_removedCount, x_flushed, x_drafted, x_height, x_time, x_foundAt, x_recordStream, x_recordType, x_recordVersion, x_recordValue, x_originProjection, x_originPosition, x_originInstruction, x_joined, x_removed, x_eventCount, x_cutLevel, x_draftType, x_draftValue, x_ops, x_arguments, x_programLength, x_states, x_noted, x_stack, M', x_groupType, x_cursor, x_keptCursor, x_parked, x_rowCount, x_rowPosition, x_rowTimes, x_rowDue) → wpX_meetFollowers pst (x_records, x_removedCount, x_flushed, x_drafted, x_height, x_time, x_foundAt, x_recordStream, x_recordType, x_recordVersion, x_recordValue, x_originProjection, x_originPosition, x_originInstruction, x_joined, x_removed, x_eventCount, x_cutLevel, x_draftType, x_draftValue, x_ops, x_arguments, x_programLength, x_states, x_noted, x_stack, M, x_groupType, x_cursor, x_keptCursor, x_parked, x_rowCount, x_rowPosition, x_rowTimes, x_rowDue) (nI o) cc (nI i) (nI b)) ∧
      (∀ (pst : Int32 → SY → Prop) (K : Int32 → SY → Prop) (x5 : Int32), (x5 = 0 ↔ ¬ (o = 10 ∨ o = 11)) → K (nI (i + 1)) (y_count, y_flushed, y_calls, y_drafted, y_top, y_time, y_isCut, y_removed, y_stream, y_type, y_from, y_by, y_value, y_version, y_on, y_call, y_draftType, y_draftValue, y_op, y_with, y_length, he, to, y_stack, y_position, y_cells, y_noted, y_wanted, y_formed, y_cursor, y_parked, y_where, y_often, y_due, y_many, y_found) →
        ((x5 = 0 → wY_faulty_213 pst ((fun a z_count z_flushed z_calls z_drafted z_top z_time z_isCut z_removed z_stream z_type z_from z_by z_value z_version z_on z_call z_draftType z_draftValue z_op z_with z_length z_height z_torn z_stack z_position z_cells z_noted z_wanted z_formed z_cursor z_parked z_where z_often z_due z_many z_found => K a (z_count, z_flushed, z_calls, z_drafted, z_top, z_time, z_isCut, z_removed, z_stream, z_type, z_from, z_by, z_value, z_version, z_on, z_call, z_draftType, z_draftValue, z_op, z_with, z_length, z_height, z_torn, z_stack, z_position, z_cells, z_noted, z_wanted, z_formed, z_cursor, z_parked, z_where, z_often, z_due, z_many, z_found))) (nI n) (nI i) (nI o) (nI b) y_count y_flushed y_calls y_drafted y_top y_time y_isCut y_removed y_stream y_type y_from y_by y_value y_version y_on y_call y_draftType y_draftValue y_op y_with y_length y_height y_torn y_stack y_position y_cells y_noted y_wanted y_formed y_cursor y_parked y_where y_often y_due y_many y_found) ∧ (¬ x5 = 0 → wpY_meet (fun u => match u with | (y_count, y_flushed, y_calls, y_drafted, y_top, y_time, y_isCut, y_removed, y_stream, y_type, y_from, y_by, y_value, y_version, y_on, y_call, y_draftType, y_draftValue, y_op, y_with, y_length, y_height, y_torn, y_stack, y_position, y_cells, y_noted, y_wanted, y_formed, y_cursor, y_parked, y_where, y_often, y_due, y_many, y_found) => wY_faulty_213 pst ((fun a z_count z_flushed z_calls z_drafted z_top z_time z_isCut z_removed z_stream z_type z_from z_by z_value z_version z_on z_call z_draftType z_draftValue z_op z_with z_length z_height z_torn z_stack z_position z_cells z_noted z_wanted z_formed z_cursor z_parked z_where z_often z_due z_many z_found => K a (z_count, z_flushed, z_calls, z_drafted, z_top, z_time, z_isCut, z_removed, z_stream, z_type, z_from, z_by, z_value, z_version, z_on, z_call, z_draftType, z_draftValue, z_op, z_with, z_length, z_height, z_torn, z_stack, z_position, z_cells, z_noted, z_wanted, z_formed, z_cursor, z_parked, z_where, z_often, z_due, z_many, z_found))) (nI n) (nI i) (nI o) (nI b) y_count y_flushed y_calls y_drafted y_top y_time y_isCut y_removed y_stream y_type y_from y_by y_value y_version y_on y_call y_draftType y_draftValue y_op y_with y_length y_height y_torn y_stack y_position y_cells y_noted y_wanted y_formed y_cursor y_parked y_where y_often y_due y_many y_found) (y_count, y_flushed, y_calls, y_drafted, y_top, y_time, y_isCut, y_removed, y_stream, y_type, y_from, y_by, y_value, y_version, y_on, y_call, y_draftType, y_draftValue, y_op, y_with, y_length, y_height, y_torn, y_stack, y_position, y_cells, y_noted, y_wanted, y_formed, y_cursor, y_parked, y_where, y_often, y_due, y_many, y_found) cc (nI b)))) := by
  have n10 : (nI o = 10) ↔ o = 10 := nI_eq (b := 10) (by omega) (by decide)
  have n11 : (nI o = 11) ↔ o = 11 := nI_eq (b := 11) (by omega) (by decide)
  have n13 : (nI o = 13) ↔ o = 13 := nI_eq (b := 13) (by omega) (by decide)
  have e1 : nI i + 1 = nI (i + 1) := nI_1 i
  by_cases hj : o = 10 ∨ o = 11
  · obtain ⟨t, ht1, ht2, ec⟩ := (es_fit_j hj).mp hfit
    subst ec
    obtain ⟨he1, to1, hC1, hY1⟩ := em_meet (j := t) (b := b) hC ht2 hn hb4
    have hK1 := es_Chk_met (b := b) (j := t) hb4 (by omega) (by omega) hK
    by_cases h11 : o = 11
    · refine ⟨es_met M t b, he1, to1, ?_, hC1, fun pst hp => ?_, fun pst K x5 h5 hp => br_f (fun z => h5.mp z hj) (hY1 _ (br_t (n11.mpr h11) (nm_r e1 hp)))⟩
      · refine es_Chk_in hK1 ((es_met_o (by omega)).trans hMi) hh ⟨o, ho, hop, by rw [hwi]; exact hfit, htk, by omega, fun t' g1 g2 g3 => ?_, fun g1 => absurd h11 g1⟩
        rw [hwi] at g3
        have := es_inj g3 (by omega) (by omega)
        subst this
        rw [← hb]
        rcases es_met_s (M := M) (j := t) (b := b) with z | z
        · exact Or.inl z
        · exact Or.inr ⟨z, Or.inl trivial⟩
      · refine br_f (fun z => by have := n10.mp z; omega) (br_t (n11.mpr h11) ?_)
        exact ex_meet (by omega) (br_t (n11.mpr h11) hp)
    · have h10 : o = 10 := by omega
      obtain ⟨he2, to2, hC2, hY2⟩ := em_meet (y_height := he1) (y_torn := to1) (j := i + 1) (b := b) hC1 (by omega) hn hb4
      have hK2 := es_Chk_met (b := b) (j := i + 1) hb4 (by omega) (by omega) hK1
      have z11 : ¬ nI o = 11 := fun z => h11 (n11.mp z)
      have z13 : ¬ nI o = 13 := fun z => by have := n13.mp z; omega
      refine ⟨es_met (es_met M t b) (i + 1) b, he2, to2, ?_, hC2, fun pst hp => ?_, fun pst K x5 h5 hp => br_f (fun z => h5.mp z hj) (hY1 _ (br_f z11 (br_f z13 ?_)))⟩
      · refine es_Chk_in hK2 ((es_met_o (by omega)).trans ((es_met_o (by omega)).trans hMi)) hh ⟨o, ho, hop, by rw [hwi]; exact hfit, htk, by omega, fun t' g1 g2 g3 => ?_, fun g1 g2 => ?_⟩
        · rw [hwi] at g3
          have := es_inj g3 (by omega) (by omega)
          subst this
          rw [← hb]
          rcases es_met_k (j := i + 1) (b := b) (h := b) (by omega) (es_met_s (M := M) (j := t) (b := b)) with z | z
          · exact Or.inl z
          · exact Or.inr ⟨z, Or.inl trivial⟩
        · rw [← hb]
          rcases es_met_s (M := es_met M t b) (j := i + 1) (b := b) with z | z
          · exact Or.inl z
          · exact Or.inr ⟨z, Or.inl trivial⟩
      · refine br_t (n10.mpr h10) ?_
        refine ex_meet (by omega) (br_f z11 (br_f z13 ?_))
        rw [e1]
        exact ex_meet (by omega) hp
      · rw [e1]
        exact hY2 _ (nm_e hp)
  · have z10 : ¬ nI o = 10 := fun z => hj (Or.inl (n10.mp z))
    have z11 : ¬ nI o = 11 := fun z => hj (Or.inr (n11.mp z))
    by_cases h13 : o = 13
    · refine ⟨M, y_height, y_torn, ?_, hC, fun pst hp => br_f z10 (br_f z11 (br_f z11 (br_t (n13.mpr h13) hp))), fun pst K x5 h5 hp => br_t (h5.mpr hj) (br_f z11 (br_t (n13.mpr h13) (nm_r e1 hp)))⟩
      exact es_Chk_in hK hMi hh ⟨o, ho, hop, by rw [hwi]; exact hfit, htk, by omega, fun t' g1 => absurd g1 hj, fun _ g2 => absurd h13 g2⟩
    · have z13 : ¬ nI o = 13 := fun z => h13 (n13.mp z)
      obtain ⟨he1, to1, hC1, hY1⟩ := em_meet (j := i + 1) (b := b) hC (by omega) hn hb4
      have hK1 := es_Chk_met (b := b) (j := i + 1) hb4 (by omega) (by omega) hK
      refine ⟨es_met M (i + 1) b, he1, to1, ?_, hC1, fun pst hp => br_f z10 (br_f z11 (br_f z11 (br_f z13 ?_))), fun pst K x5 h5 hp => br_t (h5.mpr hj) (br_f z11 (br_f z13 ?_))⟩
      · refine es_Chk_in hK1 ((es_met_o (by omega)).trans hMi) hh ⟨o, ho, hop, by rw [hwi]; exact hfit, htk, by omega, fun t' g1 => absurd g1 hj, fun g1 g2 => ?_⟩
        rw [← hb]
        rcases es_met_s (M := M) (j := i + 1) (b := b) with z | z
        · exact Or.inl z
        · exact Or.inr ⟨z, Or.inl trivial⟩
      · rw [e1]
        exact ex_meet (by omega) hp
      · rw [e1]
        exact hY1 _ (nm_e hp)
end
