section
/-! an event is returned: component and reference -/
variable {x_records x_removedCount x_flushed x_drafted x_height x_time x_foundAt : Int32} {x_recordStream x_recordType x_recordVersion x_recordValue x_originProjection x_originPosition x_originInstruction x_joined x_removed x_eventCount x_cutLevel x_draftType x_draftValue x_ops x_arguments x_programLength x_states x_noted x_stack x_metHeight x_groupType x_cursor x_keptCursor x_parked x_rowCount x_rowPosition x_rowTimes x_rowDue : Nat → Int32} {y_count y_flushed y_calls y_drafted y_top y_time : Int32} {y_isCut y_removed y_stream y_type y_from y_by y_value y_version y_on y_call y_draftType y_draftValue y_op y_with y_length y_height y_torn y_stack y_position y_cells y_noted y_wanted y_formed y_cursor y_parked y_where y_often y_due y_many y_found : Nat → Int32} {c f g nt nw nk u k : Nat}
theorem es_g3 (g : Nat) : nI g * 3 + 0 = nI (3 * g) := by
  rw [show (3 : Int32) = nI 3 from rfl, pk_mul, Nat.mul_comm, Int32.add_zero]
theorem es_g31 (g : Nat) : nI g * 3 + 1 = nI (3 * g + 1) := by
  rw [show (3 : Int32) = nI 3 from rfl, pk_mul, Nat.mul_comm, nI_1]
theorem es_g32 (g : Nat) : nI g * 3 + 2 = nI (3 * g + 2) := by
  rw [show (3 : Int32) = nI 3 from rfl, show (2 : Int32) = nI 2 from rfl, pk_mul, Nat.mul_comm, nI_add]
theorem es_2g (g : Nat) : 2 + nI g = nI (2 + g) := by
  rw [show (2 : Int32) = nI 2 from rfl, nI_add]
theorem es_4g (g : Nat) : 4 + nI g = nI (4 + g) := by
  rw [show (4 : Int32) = nI 4 from rfl, nI_add]
theorem ex_return {pst : SX → Prop} {i : Nat} (hg : g < 2) (h1 : x_rowCount (3 * g) = nI nt) (h2 : x_rowCount (3 * g + 1) = nI nw) (hi : i < nt) (hn : nt + nw ≤ 6)
    (hA : x_rowTimes (18 * g + i) < 3 → pst (x_records, x_removedCount, x_flushed, x_drafted, x_height, x_time, x_foundAt, x_recordStream, x_recordType, x_recordVersion, x_recordValue, x_originProjection, x_originPosition, x_originInstruction, x_joined, x_removed, x_eventCount, x_cutLevel, x_draftType, x_draftValue, x_ops, x_arguments, x_programLength, x_states, x_noted, x_stack, x_metHeight, x_groupType, x_cursor, x_keptCursor, x_parked, upd (upd x_rowCount (3 * g) (nI (nt - 1))) (3 * g + 1) (nI (nw + 1)), upd (es_del x_rowPosition (18 * g + i) (18 * g + (nt - 1))) (18 * g + 6 + nw) (x_rowPosition (18 * g + i)), upd (es_del x_rowTimes (18 * g + i) (18 * g + (nt - 1))) (18 * g + 6 + nw) (x_rowTimes (18 * g + i)), es_del x_rowDue (18 * g + i) (18 * g + (nt - 1))))
    (hB : ¬ x_rowTimes (18 * g + i) < 3 → pst (x_records, x_removedCount, x_flushed, x_drafted, x_height, x_time, x_foundAt, x_recordStream, x_recordType, x_recordVersion, x_recordValue, x_originProjection, x_originPosition, x_originInstruction, x_joined, x_removed, x_eventCount, x_cutLevel, x_draftType, x_draftValue, x_ops, x_arguments, x_programLength, x_states, x_noted, x_stack, x_metHeight, x_groupType, x_cursor, x_keptCursor, upd x_parked g (x_parked g + 1), upd x_rowCount (3 * g) (nI (nt - 1)), es_del x_rowPosition (18 * g + i) (18 * g + (nt - 1)), es_del x_rowTimes (18 * g + i) (18 * g + (nt - 1)), es_del x_rowDue (18 * g + i) (18 * g + (nt - 1)))) :
    wpX_returnEntry pst (x_records, x_removedCount, x_flushed, x_drafted, x_height, x_time, x_foundAt, x_recordStream, x_recordType, x_recordVersion, x_recordValue, x_originProjection, x_originPosition, x_originInstruction, x_joined, x_removed, x_eventCount, x_cutLevel, x_draftType, x_draftValue, x_ops, x_arguments, x_programLength, x_states, x_noted, x_stack, x_metHeight, x_groupType, x_cursor, x_keptCursor, x_parked, x_rowCount, x_rowPosition, x_rowTimes, x_rowDue) (nI g) (nI i) := by
  have c1 : nI (3 * g) * 6 + nI i = nI (18 * g + i) := by rw [es_6, nI_add, show 6 * (3 * g) + i = 18 * g + i by omega]
  refine nm_r (es_g3 g) (nm_r (es_g31 g) ?_)
  rw [c1, nI_clamp (by omega)]
  refine ⟨vp_in_nI (by omega) (by decide), nm_e ⟨vp_in_nI (by omega) (by decide), nm_e ?_⟩⟩
  refine ex_remove (b := 18 * g) (by omega) (by omega) h1 hi (by omega) ?_
  refine br_c (fun z => ⟨vp_in_nI (by omega) (by decide), ?_⟩) (fun z => ⟨vp_in_nI hg (by decide), vp_in_nI hg (by decide), nm_r (e' := upd x_parked g (x_parked g + 1)) (by rw [nI_clamp (by omega)]) (hB z)⟩)
  have e2 : upd x_rowCount (3 * g) (nI (nt - 1)) (nI (3 * g + 1)).toNatClampNeg = nI nw := by rw [nI_clamp (by omega), pk_un (by omega), h2]
  rw [e2]
  refine ex_insert (b := 18 * g + 6) (by omega) (by omega) (by rw [pk_un (by omega), h2]) (Nat.le_refl nw) (by omega) ?_
  rw [es_ins_0 (Nat.le_refl _), es_ins_0 (Nat.le_refl _)]
  exact hA z
theorem ey_giveBack {pst : SY → Prop} {i : Nat} (hg : g < 2) (h1 : y_many g = nI nt) (h2 : y_many (2 + g) = nI nw) (hi : i < nt) (hn : nt + nw ≤ 6)
    (hA : y_often (8 * g + i) < 3 → pst (y_count, y_flushed, y_calls, y_drafted, y_top, y_time, y_isCut, y_removed, y_stream, y_type, y_from, y_by, y_value, y_version, y_on, y_call, y_draftType, y_draftValue, y_op, y_with, y_length, y_height, y_torn, y_stack, y_position, y_cells, y_noted, y_wanted, y_formed, y_cursor, y_parked, upd (es_del y_where (8 * g + i) (8 * g + (nt - 1))) (16 + 8 * g + nw) (y_where (8 * g + i)), upd (es_del y_often (8 * g + i) (8 * g + (nt - 1))) (16 + 8 * g + nw) (y_often (8 * g + i)), es_del y_due (8 * g + i) (8 * g + (nt - 1)), upd (upd y_many g (nI (nt - 1))) (2 + g) (nI (nw + 1)), y_found))
    (hB : ¬ y_often (8 * g + i) < 3 → pst (y_count, y_flushed, y_calls, y_drafted, y_top, y_time, y_isCut, y_removed, y_stream, y_type, y_from, y_by, y_value, y_version, y_on, y_call, y_draftType, y_draftValue, y_op, y_with, y_length, y_height, y_torn, y_stack, y_position, y_cells, y_noted, y_wanted, y_formed, y_cursor, upd y_parked g (y_parked g + 1), es_del y_where (8 * g + i) (8 * g + (nt - 1)), es_del y_often (8 * g + i) (8 * g + (nt - 1)), es_del y_due (8 * g + i) (8 * g + (nt - 1)), upd y_many g (nI (nt - 1)), y_found)) :
    wpY_giveBack pst (y_count, y_flushed, y_calls, y_drafted, y_top, y_time, y_isCut, y_removed, y_stream, y_type, y_from, y_by, y_value, y_version, y_on, y_call, y_draftType, y_draftValue, y_op, y_with, y_length, y_height, y_torn, y_stack, y_position, y_cells, y_noted, y_wanted, y_formed, y_cursor, y_parked, y_where, y_often, y_due, y_many, y_found) (nI g) (nI (8 * g + i)) := by
  have hw := es_nar (nw + 1) (by omega)
  have c1 : 8 * nI (2 + g) + nI nw = nI (16 + 8 * g + nw) := by rw [es_8, nI_add, show 8 * (2 + g) + nw = 16 + 8 * g + nw by omega]
  have e2 : (nI (2 + g)).toNatClampNeg = 2 + g := nI_clamp (by omega)
  have e3 : (nI (8 * g + i)).toNatClampNeg = 8 * g + i := nI_clamp (by omega)
  have e4 : (nI (16 + 8 * g + nw)).toNatClampNeg = 16 + 8 * g + nw := nI_clamp (by omega)
  have v1 : vp_in (nI (8 * g + i)) 64 := vp_in_nI (by omega) (by decide)
  have v2 : vp_in (nI (16 + 8 * g + nw)) 64 := vp_in_nI (by omega) (by decide)
  have v3 : vp_in (nI (2 + g)) 6 := vp_in_nI (by omega) (by decide)
  refine nm_r (es_2g g) ⟨v1, ?_⟩
  rw [e2, e3]
  refine br_c (fun z => ⟨v3, v3, nm_r (e' := upd y_many (2 + g) (nI (nw + 1))) (by rw [h2, nI_1, hw.2, hw.1]) (nm_r (e' := nI (16 + 8 * g + nw)) (by rw [h2, c1]) ?_)⟩) (fun z => ⟨vp_in_nI hg (by decide), vp_in_nI hg (by decide), nm_r (e' := upd y_parked g (y_parked g + 1)) (by rw [nI_clamp (by omega)]) ?_⟩)
  · rw [e4]
    refine ⟨v1, v2, nm_e ⟨v1, v2, nm_r (e' := upd y_often (16 + 8 * g + nw) (y_often (8 * g + i))) rfl ?_⟩⟩
    refine ey_strike (b := 8 * g) rfl (by omega) (by rw [pk_un (by omega), h1]) hi (by omega) ?_
    rw [es_upc (by omega), es_del_u (by omega), es_del_u (by omega)]
    exact hA z
  · exact ey_strike (b := 8 * g) rfl (by omega) h1 hi (by omega) (hB z)
/-- the group after it -/
theorem es_Grp_ret {cu kc rn rp rt rd cv mn wh oft du : Nat → Int32} {i : Nat} (H : es_Grp c f g nt nw nk u k cu kc rn rp rt rd cv mn wh oft du) (hi : i < nt) (hg : g < 2) :
    es_Grp c f g (nt - 1) (nw + 1) nk u k cu kc (upd (upd rn (3 * g) (nI (nt - 1))) (3 * g + 1) (nI (nw + 1))) (upd (es_del rp (18 * g + i) (18 * g + (nt - 1))) (18 * g + 6 + nw) (rp (18 * g + i))) (upd (es_del rt (18 * g + i) (18 * g + (nt - 1))) (18 * g + 6 + nw) (rt (18 * g + i))) (es_del rd (18 * g + i) (18 * g + (nt - 1)))
      cv (upd (upd mn g (nI (nt - 1))) (2 + g) (nI (nw + 1))) (upd (es_del wh (8 * g + i) (8 * g + (nt - 1))) (16 + 8 * g + nw) (wh (8 * g + i))) (upd (es_del oft (8 * g + i) (8 * g + (nt - 1))) (16 + 8 * g + nw) (oft (8 * g + i))) (es_del du (8 * g + i) (8 * g + (nt - 1))) := by
  have H2 := es_Grp_dt H hi hg
  obtain ⟨a0, a1, a2, a3, a4, a5, a6, a7, a8, a9, a10⟩ := H
  obtain ⟨⟨a, ha, e1⟩, e2, e3⟩ := a3 i hi
  rw [e2, e3, e1]
  refine es_Grp_aw H2 (by omega) hg ha (fun j hj e => ?_) (fun j hj e => ?_)
  · obtain ⟨j', b1, b2, b3, b4, b5⟩ := es_del_w (b := 18 * g) rp hi j hj
    rw [b5, ← e1] at e
    exact b2 (a7 j' i b1 hi e)
  · rw [es_del_o (by omega), ← e1] at e
    exact a9 i j hi hj e.symm
/-- one group changes, the other is as it was -/
theorem es_RG_set {cu' kc' rn' rp' rt' rd' cv' mn' wh' oft' du' pk' : Nat → Int32} {nt' nw' nk' u' k' : Nat} (H : es_RG c f x_groupType x_cursor x_keptCursor x_parked x_rowCount x_rowPosition x_rowTimes x_rowDue x_time y_formed y_wanted y_cursor y_parked y_many y_where y_often y_due y_time) (hg : g < 2)
    (hz : y_formed g = 0 → nt' = 0) (hn : es_Grp c f g nt' nw' nk' u' k' cu' kc' rn' rp' rt' rd' cv' mn' wh' oft' du')
    (F1 : ∀ j, (j < 18 * g ∨ 18 * g + 18 ≤ j) → rp' j = x_rowPosition j ∧ rt' j = x_rowTimes j ∧ rd' j = x_rowDue j)
    (F2 : ∀ j, (j < 3 * g ∨ 3 * g + 3 ≤ j) → rn' j = x_rowCount j)
    (F3 : ∀ j, j ≠ g → j ≠ 2 + g → j ≠ 4 + g → mn' j = y_many j)
    (F4 : ∀ j, (j < 8 * g ∨ 8 * g + 8 ≤ j) → (j < 16 + 8 * g ∨ 24 + 8 * g ≤ j) → (j < 32 + 8 * g ∨ 40 + 8 * g ≤ j) → wh' j = y_where j ∧ oft' j = y_often j ∧ du' j = y_due j)
    (F5 : ∀ j, j ≠ g → cu' j = x_cursor j ∧ kc' j = x_keptCursor j)
    (F6 : ∀ j, j ≠ g → j ≠ 2 + g → cv' j = y_cursor j) :
    es_RG c f x_groupType (cu') (kc') (pk') (rn') (rp') (rt') (rd') x_time y_formed y_wanted (cv') (pk') (mn') (wh') (oft') (du') y_time := by
  obtain ⟨_, h2, h3⟩ := H
  refine ⟨rfl, h2, fun e he => ?_⟩
  by_cases eg : e = g
  · subst eg
    exact ⟨(h3 e he).1, nt', nw', nk', u', k', hz, hn⟩
  · obtain ⟨a, mt, mw, mk, w, l, b, h⟩ := h3 e he
    refine ⟨a, mt, mw, mk, w, l, b, es_Grp_c h ⟨(F5 e eg).1, F6 e eg (by omega), (F5 e eg).2, F6 (2 + e) (by omega) (by omega)⟩ (fun i hi => F2 _ (by omega)) ⟨F3 e eg (by omega) (by omega), F3 (2 + e) (by omega) (by omega) (by omega), F3 (4 + e) (by omega) (by omega) (by omega)⟩ (fun i hi => F1 _ (by omega)) (fun m i hm hi => F4 _ (by omega) (by omega) (by omega))⟩
/-- an event is returned: the groups -/
theorem es_RG_retA {i : Nat} (H : es_RG c f x_groupType x_cursor x_keptCursor x_parked x_rowCount x_rowPosition x_rowTimes x_rowDue x_time y_formed y_wanted y_cursor y_parked y_many y_where y_often y_due y_time) (hg : g < 2) (hz : y_formed g = 0 → nt = 0) (hi : i < nt)
    (h : es_Grp c f g nt nw nk u k x_cursor x_keptCursor x_rowCount x_rowPosition x_rowTimes x_rowDue y_cursor y_many y_where y_often y_due) :
    es_RG c f x_groupType x_cursor x_keptCursor x_parked (upd (upd x_rowCount (3 * g) (nI (nt - 1))) (3 * g + 1) (nI (nw + 1))) (upd (es_del x_rowPosition (18 * g + i) (18 * g + (nt - 1))) (18 * g + 6 + nw) (x_rowPosition (18 * g + i))) (upd (es_del x_rowTimes (18 * g + i) (18 * g + (nt - 1))) (18 * g + 6 + nw) (x_rowTimes (18 * g + i))) (es_del x_rowDue (18 * g + i) (18 * g + (nt - 1))) x_time y_formed y_wanted y_cursor y_parked (upd (upd y_many g (nI (nt - 1))) (2 + g) (nI (nw + 1))) (upd (es_del y_where (8 * g + i) (8 * g + (nt - 1))) (16 + 8 * g + nw) (y_where (8 * g + i))) (upd (es_del y_often (8 * g + i) (8 * g + (nt - 1))) (16 + 8 * g + nw) (y_often (8 * g + i))) (es_del y_due (8 * g + i) (8 * g + (nt - 1))) y_time := by
  have hn := h.1.2.2.1
  have hp := H.1
  subst hp
  refine es_RG_set H hg (fun z => by have := hz z; omega) (es_Grp_ret h hi hg) (fun j hj => ?_) (fun j hj => ?_) (fun j a b d => ?_) (fun j a b d => ?_) (fun j _ => ⟨rfl, rfl⟩) (fun j _ _ => rfl)
  · rw [pk_un (by omega), pk_un (by omega), es_del_o (by omega), es_del_o (by omega), es_del_o (by omega)]
    exact ⟨rfl, rfl, rfl⟩
  · rw [pk_un (by omega), pk_un (by omega)]
  · rw [pk_un b, pk_un a]
  · rw [pk_un (by omega), pk_un (by omega), es_del_o (by omega), es_del_o (by omega), es_del_o (by omega)]
    exact ⟨rfl, rfl, rfl⟩
theorem es_RG_delT {i : Nat} {pk' : Nat → Int32} (H : es_RG c f x_groupType x_cursor x_keptCursor x_parked x_rowCount x_rowPosition x_rowTimes x_rowDue x_time y_formed y_wanted y_cursor y_parked y_many y_where y_often y_due y_time) (hg : g < 2) (hz : y_formed g = 0 → nt = 0) (hi : i < nt)
    (h : es_Grp c f g nt nw nk u k x_cursor x_keptCursor x_rowCount x_rowPosition x_rowTimes x_rowDue y_cursor y_many y_where y_often y_due) :
    es_RG c f x_groupType x_cursor x_keptCursor (pk') (upd x_rowCount (3 * g) (nI (nt - 1))) (es_del x_rowPosition (18 * g + i) (18 * g + (nt - 1))) (es_del x_rowTimes (18 * g + i) (18 * g + (nt - 1))) (es_del x_rowDue (18 * g + i) (18 * g + (nt - 1))) x_time y_formed y_wanted y_cursor (pk') (upd y_many g (nI (nt - 1))) (es_del y_where (8 * g + i) (8 * g + (nt - 1))) (es_del y_often (8 * g + i) (8 * g + (nt - 1))) (es_del y_due (8 * g + i) (8 * g + (nt - 1))) y_time := by
  have hn := h.1.2.2.1
  refine es_RG_set H hg (fun z => by have := hz z; omega) (es_Grp_dt h hi hg) (fun j hj => ?_) (fun j hj => ?_) (fun j a b d => ?_) (fun j a b d => ?_) (fun j _ => ⟨rfl, rfl⟩) (fun j _ _ => rfl)
  · rw [es_del_o (by omega), es_del_o (by omega), es_del_o (by omega)]
    exact ⟨rfl, rfl, rfl⟩
  · rw [pk_un (by omega)]
  · rw [pk_un a]
  · rw [es_del_o (by omega), es_del_o (by omega), es_del_o (by omega)]
    exact ⟨rfl, rfl, rfl⟩
end
