section
/-! form -/
variable {x_records x_removedCount x_flushed x_drafted x_height x_time x_foundAt : Int32} {x_recordStream x_recordType x_recordVersion x_recordValue x_originProjection x_originPosition x_originInstruction x_joined x_removed x_eventCount x_cutLevel x_draftType x_draftValue x_ops x_arguments x_programLength x_states x_noted x_stack x_metHeight x_groupType x_cursor x_keptCursor x_parked x_rowCount x_rowPosition x_rowTimes x_rowDue : Nat → Int32} {y_count y_flushed y_calls y_drafted y_top y_time : Int32} {y_isCut y_removed y_stream y_type y_from y_by y_value y_version y_on y_call y_draftType y_draftValue y_op y_with y_length y_height y_torn y_stack y_position y_cells y_noted y_wanted y_formed y_cursor y_parked y_where y_often y_due y_many y_found : Nat → Int32} {c f q : Nat} {cut rm str ty fr byi val ver onn call oi jn ec cl : Nat → Int32} {d : Nat} {L : Nat → Nat} {g : Nat}
theorem ey_keep0 {pst : SY → Prop} (hg : g < 2) (h1 : y_many g = 0) (h2 : y_many (2 + g) = 0) (hp : pst (y_count, y_flushed, y_calls, y_drafted, y_top, y_time, y_isCut, y_removed, y_stream, y_type, y_from, y_by, y_value, y_version, y_on, y_call, y_draftType, y_draftValue, y_op, y_with, y_length, y_height, y_torn, y_stack, y_position, y_cells, y_noted, y_wanted, y_formed, upd y_cursor (2 + g) (y_cursor g), y_parked, y_where, y_often, y_due, upd y_many (4 + g) 0, y_found)) : wpY_keep pst (y_count, y_flushed, y_calls, y_drafted, y_top, y_time, y_isCut, y_removed, y_stream, y_type, y_from, y_by, y_value, y_version, y_on, y_call, y_draftType, y_draftValue, y_op, y_with, y_length, y_height, y_torn, y_stack, y_position, y_cells, y_noted, y_wanted, y_formed, y_cursor, y_parked, y_where, y_often, y_due, y_many, y_found) (nI g) := by
  have cg : (nI g).toNatClampNeg = g := nI_clamp (by omega)
  have c2 : (2 + nI g).toNatClampNeg = 2 + g := by rw [es_2g, nI_clamp (by omega)]
  have c4 : (4 + nI g).toNatClampNeg = 4 + g := by rw [es_4g, nI_clamp (by omega)]
  have v2 : vp_in (2 + nI g) 4 := by rw [es_2g]; exact vp_in_nI (by omega) (by decide)
  have v26 : vp_in (2 + nI g) 6 := by rw [es_2g]; exact vp_in_nI (by omega) (by decide)
  have v4 : vp_in (4 + nI g) 6 := by rw [es_4g]; exact vp_in_nI (by omega) (by decide)
  refine ⟨vp_in_nI (by omega) (by decide), v2, nm_r (e' := upd y_cursor (2 + g) (y_cursor g)) (by rw [cg, c2]) ⟨v4, nm_r (e' := upd y_many (4 + g) 0) (by rw [c4, es_nb_0]) ⟨1, vp_in_nI (by omega) (by decide), br_t ?_ ⟨1, v26, br_t ?_ hp⟩⟩⟩⟩
  · rw [cg, pk_un (by omega), h1]; exact Int32.le_refl 0
  · rw [c2, pk_un (by omega), h2]; exact Int32.le_refl 0
theorem es_RG_form {t : Nat} (H : es_RG c f x_groupType x_cursor x_keptCursor x_parked x_rowCount x_rowPosition x_rowTimes x_rowDue x_time y_formed y_wanted y_cursor y_parked y_many y_where y_often y_due y_time) (hg : g < 2) (ht : t ≤ 8) (hfc : f ≤ c) :
    es_RG c f (upd x_groupType g (nI t)) (upd x_cursor g (nI f)) (upd x_keptCursor g (nI f)) (upd x_parked g 0) (upd (upd (upd x_rowCount (3 * g) 0) (3 * g + 1) 0) (3 * g + 2) 0) x_rowPosition x_rowTimes x_rowDue x_time (upd y_formed g 1) (upd y_wanted g (nI t)) (upd (upd y_cursor g (nI f)) (2 + g) (nI f)) (upd y_parked g 0) (upd (upd (upd y_many g 0) (2 + g) 0) (4 + g) 0) y_where y_often y_due y_time := by
  obtain ⟨h1, h2, h3⟩ := H
  subst h1
  refine ⟨rfl, h2, fun e he => ?_⟩
  by_cases eg : e = g
  · subst eg
    refine ⟨Or.inr ⟨?_, t, ht, pk_us, pk_us⟩, 0, 0, 0, f, f, fun _ => rfl, ⟨hfc, Nat.le_refl f, by omega, by omega⟩, ⟨pk_us, ?_, pk_us, pk_us⟩, ⟨?_, ?_, ?_, ?_, pk_us, pk_us⟩, fun i h => absurd h (Nat.not_lt_zero _), fun i h => absurd h (Nat.not_lt_zero _), fun i h => absurd h (Nat.not_lt_zero _), fun i h => absurd h (Nat.not_lt_zero _), fun i j h => absurd h (Nat.not_lt_zero _), fun i j h => absurd h (Nat.not_lt_zero _), fun i j h => absurd h (Nat.not_lt_zero _), fun i j h h' => absurd h' (Nat.not_lt_zero _)⟩
    · rw [pk_us]; decide
    · rw [pk_un (by omega), pk_us]
    · rw [pk_un (by omega), pk_un (by omega), pk_us]; rfl
    · rw [pk_un (by omega), pk_un (by omega), pk_us]; rfl
    · rw [pk_un (by omega), pk_us]; rfl
    · rw [pk_un (by omega), pk_us]; rfl
  · obtain ⟨a, mt, mw, mk, w, l, b, h⟩ := h3 e he
    refine ⟨?_, mt, mw, mk, w, l, ?_, es_Grp_c h ⟨pk_un eg, ?_, pk_un eg, ?_⟩ (fun i hi => ?_) ⟨?_, ?_, ?_⟩ (fun i hi => ⟨rfl, rfl, rfl⟩) (fun m i hm hi => ⟨rfl, rfl, rfl⟩)⟩
    · unfold es_Frm at a ⊢
      rw [pk_un eg, pk_un eg, pk_un eg]; exact a
    · rw [pk_un eg]; exact b
    · rw [pk_un (by omega), pk_un eg]
    · rw [pk_un (by omega), pk_un (by omega)]
    · rw [pk_un (by omega), pk_un (by omega), pk_un (by omega)]
    · rw [pk_un (by omega), pk_un (by omega), pk_un (by omega)]
    · rw [pk_un (by omega), pk_un (by omega), pk_un (by omega)]
    · rw [pk_un (by omega), pk_un (by omega), pk_un (by omega)]
theorem es_01 : (0 : Int32) + 1 = 1 := by decide
theorem es_12 : (1 : Int32) + 1 = 2 := by decide
theorem es_23 : (2 : Int32) + 1 = 3 := by decide
theorem i_vc_form {k : Nat} {u : SX} {v : SY} (I : i_Rel k u v) (hk : k + 4 ≤ 2048) (v1 : Int32) (v2 : Int32) : wpX_form (fun r u' => wpY_form (fun r' v' => r' = r ∧ i_Rel (k + 4) u' v') v v1 v2) u v1 v2 := by
  obtain ⟨x_records, x_removedCount, x_flushed, x_drafted, x_height, x_time, x_foundAt, x_recordStream, x_recordType, x_recordVersion, x_recordValue, x_originProjection, x_originPosition, x_originInstruction, x_joined, x_removed, x_eventCount, x_cutLevel, x_draftType, x_draftValue, x_ops, x_arguments, x_programLength, x_states, x_noted, x_stack, x_metHeight, x_groupType, x_cursor, x_keptCursor, x_parked, x_rowCount, x_rowPosition, x_rowTimes, x_rowDue⟩ := u
  obtain ⟨y_count, y_flushed, y_calls, y_drafted, y_top, y_time, y_isCut, y_removed, y_stream, y_type, y_from, y_by, y_value, y_version, y_on, y_call, y_draftType, y_draftValue, y_op, y_with, y_length, y_height, y_torn, y_stack, y_position, y_cells, y_noted, y_wanted, y_formed, y_cursor, y_parked, y_where, y_often, y_due, y_many, y_found⟩ := v
  have J := i_up I
  obtain ⟨q, hq, c, f, d, L, hL, hD, hP, hS, hG, hF⟩ := I
  have hL0 := hL
  have hx := hL.2.2.1
  have hy := hL.2.2.2.1
  subst hx hy
  have hfc : f ≤ c := hL.2.2.2.2.2.2.2.2.2.2.2.2.2.1.2.1
  rcases es_rg v1 2 (by decide) with h | ⟨g, hg, rfl⟩
  · by_cases z : v1 < 0
    · refine br_t z ?_
      unfold wpY_form
      exact ey_outT 2 rfl h (br_f (by decide) ⟨rfl, J⟩)
    · refine br_f z (br_t (h.resolve_left z) ?_)
      unfold wpY_form
      exact ey_outT 2 rfl h (br_f (by decide) ⟨rfl, J⟩)
  · rcases es_rg v2 9 (by decide) with h | ⟨t, ht, rfl⟩
    · by_cases z : v2 < 0
      · refine br_f (nI_pos (by omega)) (br_f (nI_ge (b := 2) hg (by decide)) (br_t z ?_))
        unfold wpY_form
        exact ey_outF 2 g rfl (by decide) hg (br_t rfl (ey_outT 9 rfl h (br_f (by decide) ⟨rfl, J⟩)))
      · refine br_f (nI_pos (by omega)) (br_f (nI_ge (b := 2) hg (by decide)) (br_f z (br_f (fun w => es_ltirr (es_ltle (es_lelt w (by decide)) (h.resolve_left z))) ?_)))
        unfold wpY_form
        exact ey_outF 2 g rfl (by decide) hg (br_t rfl (ey_outT 9 rfl h (br_f (by decide) ⟨rfl, J⟩)))
    · have cg : (nI g).toNatClampNeg = g := nI_clamp (by omega)
      have vg2 : vp_in (nI g) 2 := vp_in_nI hg (by decide)
      have vg6 : vp_in (nI g) 6 := vp_in_nI (by omega) (by decide)
      have vg4 : vp_in (nI g) 4 := vp_in_nI (by omega) (by decide)
      have hn := es_nar t (by omega)
      have v3 : vp_in (nI g * 3 + 0) 6 := by rw [es_g3]; exact vp_in_nI (by omega) (by decide)
      have v31 : vp_in (nI g * 3 + 1) 6 := by rw [es_g31]; exact vp_in_nI (by omega) (by decide)
      have v32 : vp_in (nI g * 3 + 2) 6 := by rw [es_g32]; exact vp_in_nI (by omega) (by decide)
      have c3 : (nI g * 3 + 0).toNatClampNeg = 3 * g := by rw [es_g3, nI_clamp (by omega)]
      have c31 : (nI g * 3 + 1).toNatClampNeg = 3 * g + 1 := by rw [es_g31, nI_clamp (by omega)]
      have c32 : (nI g * 3 + 2).toNatClampNeg = 3 * g + 2 := by rw [es_g32, nI_clamp (by omega)]
      have c2 : (2 + nI g).toNatClampNeg = 2 + g := by rw [es_2g, nI_clamp (by omega)]
      have v2 : vp_in (2 + nI g) 6 := by rw [es_2g]; exact vp_in_nI (by omega) (by decide)
      refine br_f (nI_pos (by omega)) (br_f (nI_ge (b := 2) hg (by decide)) (br_f (nI_pos (by omega)) (br_t (nI_le (b := 8) (by omega) (by decide)) ?_)))
      rw [cg]
      refine ⟨vg2, nm_e ⟨vg2, nm_e ⟨vg2, nm_e ⟨vg2, nm_e ⟨4, ?_⟩⟩⟩⟩⟩
      refine br_f (by decide) ⟨v3, nm_r (e' := upd x_rowCount (3 * g) 0) (by rw [c3]) (nm_r es_01 ?_)⟩
      refine br_f (by decide) ⟨v31, nm_r (e' := upd (upd x_rowCount (3 * g) 0) (3 * g + 1) 0) (by rw [c31]) (nm_r es_12 ?_)⟩
      refine br_f (by decide) ⟨v32, nm_r (e' := upd (upd (upd x_rowCount (3 * g) 0) (3 * g + 1) 0) (3 * g + 2) 0) (by rw [c32]) (nm_r es_23 ?_)⟩
      refine br_t (by decide) ?_
      unfold wpY_form
      refine ey_outF 2 g rfl (by decide) hg (br_t rfl (ey_outF 9 t rfl (by decide) ht (br_t rfl ?_)))
      rw [cg, c2, hn.2, hn.1, es_nb1, es_nb_0]
      refine ⟨vg2, nm_e ⟨vg2, nm_e ⟨vg4, nm_e ⟨vg6, nm_e ⟨v2, nm_e ⟨vg2, nm_e ?_⟩⟩⟩⟩⟩⟩
      refine ey_keep0 hg ?_ ?_ ?_
      · rw [pk_un (by omega), pk_us]
      · rw [pk_us]
      · rw [pk_us]
        exact ⟨rfl, q, by omega, c, f, d, L, hL0, hD, hP, hS, es_RG_form hG hg (by omega) hfc, hF⟩
end
