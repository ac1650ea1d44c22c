section
variable {x_records x_removedCount x_flushed x_drafted x_height x_time x_foundAt : Int32} {x_recordStream x_recordType x_recordVersion x_recordValue x_originProjection x_originPosition x_originInstruction x_joined x_removed x_eventCount x_cutLevel x_draftType x_draftValue x_ops x_arguments x_programLength x_states x_noted x_stack x_metHeight x_groupType x_cursor x_keptCursor x_parked x_rowCount x_rowPosition x_rowTimes x_rowDue : Nat → Int32} {y_count y_flushed y_calls y_drafted y_top y_time : Int32} {y_isCut y_removed y_stream y_type y_from y_by y_value y_version y_on y_call y_draftType y_draftValue y_op y_with y_length y_height y_torn y_stack y_position y_cells y_noted y_wanted y_formed y_cursor y_parked y_where y_often y_due y_many y_found : Nat → Int32} {c f q : Nat} {cut rm str ty fr byi val ver onn call oi jn ec cl : Nat → Int32} {d : Nat} {L : Nat → Nat} {g nt nw nk u k : Nat}
/-- behind the hidden ones: from a WAITING event or from the log -/
theorem em_take2 {P : Int32 → SX → SY → Prop} (H : es_Q c f d L q (x_records, x_removedCount, x_flushed, x_drafted, x_height, x_time, x_foundAt, x_recordStream, x_recordType, x_recordVersion, x_recordValue, x_originProjection, x_originPosition, x_originInstruction, x_joined, x_removed, x_eventCount, x_cutLevel, x_draftType, x_draftValue, x_ops, x_arguments, x_programLength, x_states, x_noted, x_stack, x_metHeight, x_groupType, x_cursor, x_keptCursor, x_parked, x_rowCount, x_rowPosition, x_rowTimes, x_rowDue) (y_count, y_flushed, y_calls, y_drafted, y_top, y_time, y_isCut, y_removed, y_stream, y_type, y_from, y_by, y_value, y_version, y_on, y_call, y_draftType, y_draftValue, y_op, y_with, y_length, y_height, y_torn, y_stack, y_position, y_cells, y_noted, y_wanted, y_formed, y_cursor, y_parked, y_where, y_often, y_due, y_many, y_found)) (hg : g < 2) (hcnt : es_cnt (x_records, x_removedCount, x_flushed, x_drafted, x_height, x_time, x_foundAt, x_recordStream, x_recordType, x_recordVersion, x_recordValue, x_originProjection, x_originPosition, x_originInstruction, x_joined, x_removed, x_eventCount, x_cutLevel, x_draftType, x_draftValue, x_ops, x_arguments, x_programLength, x_states, x_noted, x_stack, x_metHeight, x_groupType, x_cursor, x_keptCursor, x_parked, x_rowCount, x_rowPosition, x_rowTimes, x_rowDue) g = nI nt) (h6 : nt < 6) (hgt : ¬ es_gty (x_records, x_removedCount, x_flushed, x_drafted, x_height, x_time, x_foundAt, x_recordStream, x_recordType, x_recordVersion, x_recordValue, x_originProjection, x_originPosition, x_originInstruction, x_joined, x_removed, x_eventCount, x_cutLevel, x_draftType, x_draftValue, x_ops, x_arguments, x_programLength, x_states, x_noted, x_stack, x_metHeight, x_groupType, x_cursor, x_keptCursor, x_parked, x_rowCount, x_rowPosition, x_rowTimes, x_rowDue) g = -1)
    (WY : (Int32 → SY → Prop) → Prop) (hW : ∀ post : Int32 → SY → Prop, wY_take_79 post (nI g) (nI (16 + 8 * g)) y_count y_flushed y_calls y_drafted y_top y_time y_isCut y_removed y_stream y_type y_from y_by y_value y_version y_on y_call y_draftType y_draftValue y_op y_with y_length y_height y_torn y_stack y_position y_cells y_noted y_wanted y_formed y_cursor y_parked y_where y_often y_due y_many y_found → WY post)
    (hP : ∀ r u' v', es_Q c f d L q u' v' → P r u' v') :
    vp_in (nI (3 * g + 1)) 6 ∧ ((x_rowCount (nI (3 * g + 1)).toNatClampNeg ≤ 0 → wpX_takeFromLog (fun r_47 u => match u with | (x_records, x_removedCount, x_flushed, x_drafted, x_height, x_time, x_foundAt, x_recordStream, x_recordType, x_recordVersion, x_recordValue, x_originProjection, x_originPosition, x_originInstruction, x_joined, x_removed, x_eventCount, x_cutLevel, x_draftType, x_draftValue, x_ops, x_arguments, x_programLength, x_states, x_noted, x_stack, x_metHeight, x_groupType, x_cursor, x_keptCursor, x_parked, x_rowCount, x_rowPosition, x_rowTimes, x_rowDue) => wX_take_107 (fun r u' => WY (fun r' v' => r' = r ∧ P r u' v')) (nI (3 * g)) r_47 1 x_records x_removedCount x_flushed x_drafted x_height x_time x_foundAt x_recordStream x_recordType x_recordVersion x_recordValue x_originProjection x_originPosition x_originInstruction x_joined x_removed x_eventCount x_cutLevel x_draftType x_draftValue x_ops x_arguments x_programLength x_states x_noted x_stack x_metHeight x_groupType x_cursor x_keptCursor x_parked x_rowCount x_rowPosition x_rowTimes x_rowDue) (x_records, x_removedCount, x_flushed, x_drafted, x_height, x_time, x_foundAt, x_recordStream, x_recordType, x_recordVersion, x_recordValue, x_originProjection, x_originPosition, x_originInstruction, x_joined, x_removed, x_eventCount, x_cutLevel, x_draftType, x_draftValue, x_ops, x_arguments, x_programLength, x_states, x_noted, x_stack, x_metHeight, x_groupType, x_cursor, x_keptCursor, x_parked, x_rowCount, x_rowPosition, x_rowTimes, x_rowDue) (nI g)) ∧
      (¬ x_rowCount (nI (3 * g + 1)).toNatClampNeg ≤ 0 → vp_in (nI (3 * g + 1) * 6) 36 ∧ ∀ x4, x4 = x_rowPosition (nI (3 * g + 1) * 6).toNatClampNeg → (vp_in (nI (3 * g + 1) * 6) 36 ∧ ∀ x5, x5 = x_rowTimes (nI (3 * g + 1) * 6).toNatClampNeg + 1 → wpX_removeEntry (fun u => match u with | (x_records, x_removedCount, x_flushed, x_drafted, x_height, x_time, x_foundAt, x_recordStream, x_recordType, x_recordVersion, x_recordValue, x_originProjection, x_originPosition, x_originInstruction, x_joined, x_removed, x_eventCount, x_cutLevel, x_draftType, x_draftValue, x_ops, x_arguments, x_programLength, x_states, x_noted, x_stack, x_metHeight, x_groupType, x_cursor, x_keptCursor, x_parked, x_rowCount, x_rowPosition, x_rowTimes, x_rowDue) => wX_take_107 (fun r u' => WY (fun r' v' => r' = r ∧ P r u' v')) (nI (3 * g)) x4 x5 x_records x_removedCount x_flushed x_drafted x_height x_time x_foundAt x_recordStream x_recordType x_recordVersion x_recordValue x_originProjection x_originPosition x_originInstruction x_joined x_removed x_eventCount x_cutLevel x_draftType x_draftValue x_ops x_arguments x_programLength x_states x_noted x_stack x_metHeight x_groupType x_cursor x_keptCursor x_parked x_rowCount x_rowPosition x_rowTimes x_rowDue) (x_records, x_removedCount, x_flushed, x_drafted, x_height, x_time, x_foundAt, x_recordStream, x_recordType, x_recordVersion, x_recordValue, x_originProjection, x_originPosition, x_originInstruction, x_joined, x_removed, x_eventCount, x_cutLevel, x_draftType, x_draftValue, x_ops, x_arguments, x_programLength, x_states, x_noted, x_stack, x_metHeight, x_groupType, x_cursor, x_keptCursor, x_parked, x_rowCount, x_rowPosition, x_rowTimes, x_rowDue) (nI (3 * g + 1)) 0))) := by
  obtain ⟨hL, hD, hPr, hS, hG, hF⟩ := H
  have hcnt : x_rowCount (3 * g) = nI nt := hcnt
  have hgt : ¬ x_groupType g = -1 := hgt
  obtain ⟨hfm, nt', nw, nk, w, l, hz, hgr⟩ := hG.2.2 g hg
  have hn6 := hgr.1.2.2.1
  have e0 : nt' = nt := by
    rw [hgr.2.2.1.1] at hcnt
    exact es_inj hcnt (by omega) (by omega)
  subst e0
  have hfo : ¬ y_formed g = 0 := fun z => hgt ((es_Frm_f hfm).mpr z)
  have hmt := hgr.2.2.1.2.1
  have hmy := hgr.2.2.1.2.2.2.1
  have hmx := hgr.2.2.1.2.2.1
  have vr : vp_in (nI (3 * g + 1)) 6 := vp_in_nI (by omega) (by decide)
  have cr : (nI (3 * g + 1)).toNatClampNeg = 3 * g + 1 := nI_clamp (by omega)
  have vy : vp_in (2 + nI g) 6 := by rw [es_2g]; exact vp_in_nI (by omega) (by decide)
  have cy : (2 + nI g).toNatClampNeg = 2 + g := by rw [es_2g, nI_clamp (by omega)]
  have hc2 : c ≤ 2000 := hL.2.2.2.2.2.2.2.2.2.2.2.2.2.1.1
  refine ⟨vr, ?_⟩
  by_cases n0 : nw = 0
  · refine br_t (by rw [cr, hmx, n0]; exact Int32.le_refl 0) ?_
    have ym : y_many (2 + nI g).toNatClampNeg ≤ 0 := by rw [cy, hmy, n0]; exact Int32.le_refl 0
    rcases hfm with ⟨h1, _⟩ | ⟨_, t, ht, h2, h3⟩
    · exact absurd h1 hfo
    · have hcx := hgr.2.1.1
      have hcy := hgr.2.1.2.1
      have hu := hgr.1.1
      have hpos : ∀ i, i < nt' → ∀ a, w ≤ a → a < 2000 → ¬ x_rowPosition (18 * g + i) = nI a := by
        intro i hi a ha ha2 e
        obtain ⟨⟨b, hb, eb⟩, _⟩ := hgr.2.2.2.1 i hi
        rw [eb] at e
        have := es_inj e (by omega) (by omega)
        omega
      have hL0 := hL
      obtain ⟨rfl, rfl, rfl, rfl, rfl, rfl, rfl, rfl, rfl, rfl, rfl, rfl, rfl, hl⟩ := hL
      refine ex_log hl hg ht h2 hcx hu (fun a g1 g2 g3 g4 => ?_) (fun gN => ?_)
      · refine ex_take107 hg (by omega) hcnt h6 (hW _ ⟨vy, br_t ym ?_⟩)
        refine ey_log hl hg ht h3 hcy hu (fun b e1 e2 e3 e4 => ?_) (fun e => absurd g3 (e a g1 g2))
        have := es_fstu g3 g1 g4 e3 e1 e4
        subst this
        refine ey_lend hg hmt h6 ⟨rfl, hP _ _ _ ⟨hL0, hD, hPr, hS, ?_, hF⟩⟩
        have hG' := es_RG_at (a := a) (u' := a + 1) (tm := 1) (dv := x_time + 10) hG hg hfo hgr (by omega) (by omega) (by omega) (by omega) (fun i hi => hpos i hi a g1 (by omega)) (fun i hi => by omega)
        have ht := hG.2.1
        subst ht
        exact hG'
      · refine br_t rfl (hW _ ⟨vy, br_t ym ?_⟩)
        refine ey_log hl hg ht h3 hcy hu (fun b e1 e2 e3 e4 => absurd e3 (gN b e1 e2)) (fun _ => ⟨rfl, hP _ _ _ ⟨hL0, hD, hPr, hS, es_RG_cu hG hg hz hgr hu (Nat.le_refl c), hF⟩⟩)
  · have cw : nI (3 * g + 1) * 6 = nI (18 * g + 6) := by rw [es_6]; congr 1; omega
    have vw : vp_in (nI (3 * g + 1) * 6) 36 := by rw [cw]; exact vp_in_nI (by omega) (by decide)
    have dw : (nI (3 * g + 1) * 6).toNatClampNeg = 18 * g + 6 := by rw [cw, nI_clamp (by omega)]
    have v16 : vp_in (nI (16 + 8 * g)) 64 := vp_in_nI (by omega) (by decide)
    have c16 : (nI (16 + 8 * g)).toNatClampNeg = 16 + 8 * g := nI_clamp (by omega)
    obtain ⟨⟨a, ha, ea⟩, hwh, hof⟩ := hgr.2.2.2.2.2.1 0 (by omega)
    rw [Nat.add_zero] at ea hwh hof
    rw [Nat.add_zero] at hwh hof
    have hu := hgr.1.1
    have xn : ¬ x_rowCount (nI (3 * g + 1)).toNatClampNeg ≤ 0 := by rw [cr, hmx]; exact nI_nle (by omega) (by omega)
    have yn : ¬ y_many (2 + nI g).toNatClampNeg ≤ 0 := by rw [cy, hmy]; exact nI_nle (by omega) (by omega)
    have hG1 := es_RG_delW hG hg hz (i := 0) (by omega) hgr
    have hgr1 := es_Grp_dw hgr (i := 0) (by omega) hg
    have hd1 : ∀ i, i < nt' → ¬ es_del x_rowPosition (18 * g + 6 + 0) (18 * g + 6 + (nw - 1)) (18 * g + i) = nI a := by
      intro i hi e
      rw [es_del_o (by omega), ← ea] at e
      exact hgr.2.2.2.2.2.2.2.2.2.1 i 0 hi (by omega) e
    have hd2 : ∀ i, i < nw - 1 → ¬ es_del x_rowPosition (18 * g + 6 + 0) (18 * g + 6 + (nw - 1)) (18 * g + 6 + i) = nI a := by
      intro i hi e
      obtain ⟨j', b1, b2, b3, b4, b5⟩ := es_del_w (b := 18 * g + 6) (k := 0) (n := nw) x_rowPosition (by omega) i hi
      rw [b5, ← ea] at e
      exact b2 (hgr.2.2.2.2.2.2.2.2.1 j' 0 b1 (by omega) e)
    have hG2 := es_RG_at (a := a) (u' := w) (tm := x_rowTimes (18 * g + 6) + 1) (dv := x_time + 10) hG1 hg hfo hgr1 (by omega) (Nat.le_refl w) hu ha hd1 hd2
    rw [es_upd0 hgr.2.1.1, es_upd0 hgr.2.1.2.1] at hG2
    have ht := hG.2.1
    subst ht
    refine br_f xn ⟨vw, nm_r (e' := nI a) (by rw [dw, ea]) ⟨vw, nm_r (e' := x_rowTimes (18 * g + 6) + 1) (by rw [dw]) ?_⟩⟩
    refine ex_remove (b := 18 * g + 6) (k := 0) (by omega) (by omega) hmx (by omega) (by omega) ?_
    refine ex_take107 hg (by omega) (by rw [pk_un (by omega)]; exact hcnt) h6 (hW _ ⟨vy, br_f yn ⟨v16, nm_r (e' := nI a) (by rw [c16, hwh, ea]) ⟨v16, nm_r (e' := x_rowTimes (18 * g + 6)) (by rw [c16, hof]) ?_⟩⟩⟩)
    rw [es_2g]
    refine ey_strike (b := 16 + 8 * g) (k := 0) (by omega) (by omega) hmy (by omega) (by omega) ?_
    refine ey_lend hg (by rw [pk_un (by omega)]; exact hmt) h6 ⟨rfl, hP _ _ _ ⟨hL, hD, hPr, hS, hG2, hF⟩⟩
theorem i_vc_take {k : Nat} {u : SX} {v : SY} (I : i_Rel k u v) (hk : k + 4 ≤ 2048) (v1 : Int32) : wpX_take (fun r u' => wpY_take (fun r' v' => r' = r ∧ i_Rel (k + 4) u' v') v v1) u v1 := by
  obtain ⟨x_records, x_removedCount, x_flushed, x_drafted, x_height, x_time, x_foundAt, x_recordStream, x_recordType, x_recordVersion, x_recordValue, x_originProjection, x_originPosition, x_originInstruction, x_joined, x_removed, x_eventCount, x_cutLevel, x_draftType, x_draftValue, x_ops, x_arguments, x_programLength, x_states, x_noted, x_stack, x_metHeight, x_groupType, x_cursor, x_keptCursor, x_parked, x_rowCount, x_rowPosition, x_rowTimes, x_rowDue⟩ := u
  obtain ⟨y_count, y_flushed, y_calls, y_drafted, y_top, y_time, y_isCut, y_removed, y_stream, y_type, y_from, y_by, y_value, y_version, y_on, y_call, y_draftType, y_draftValue, y_op, y_with, y_length, y_height, y_torn, y_stack, y_position, y_cells, y_noted, y_wanted, y_formed, y_cursor, y_parked, y_where, y_often, y_due, y_many, y_found⟩ := v
  have J := i_up I
  obtain ⟨q, hq, c, f, d, L, hQ⟩ := I
  dsimp only [wpX_take]
  rcases es_rg v1 2 (by decide) with h | ⟨g, hg, rfl⟩
  · by_cases z : v1 < 0
    · refine br_t z ?_
      dsimp only [wpY_take]
      exact ey_outT 2 rfl h (br_f (by decide) ⟨rfl, J⟩)
    · refine br_f z (br_f (fun w => es_ltirr (es_ltle w (h.resolve_left z))) ?_)
      dsimp only [wpY_take]
      exact ey_outT 2 rfl h (br_f (by decide) ⟨rfl, J⟩)
  · obtain ⟨hfm, nt, nw, nk, u, l, hz, hgr⟩ := hQ.2.2.2.2.1.2.2 g hg
    have hff := es_Frm_f hfm
    have hn6 := hgr.1.2.2.1
    have cg : (nI g).toNatClampNeg = g := nI_clamp (by omega)
    have vg2 : vp_in (nI g) 2 := vp_in_nI hg (by decide)
    have vg6 : vp_in (nI g) 6 := vp_in_nI (by omega) (by decide)
    refine br_f (nI_pos (by omega)) (br_t (nI_lt (b := 2) hg (by decide)) ⟨vg2, ?_⟩)
    rw [cg]
    refine br_c (fun z => ?_) (fun z => nm_r (es_g3 g) ⟨vp_in_nI (by omega) (by decide), ?_⟩)
    · dsimp only [wpY_take]
      exact ey_outF 2 g rfl (by decide) hg (br_t rfl ⟨vg2, br_t (by rw [cg]; exact hff.mp z) ⟨rfl, J⟩⟩)
    · have zf : ¬ y_formed (nI g).toNatClampNeg = 0 := by rw [cg]; exact fun w => z (hff.mpr w)
      rw [nI_clamp (by omega), hgr.2.2.1.1]
      by_cases h6 : nt < 6
      · refine br_t (nI_lt (b := 6) h6 (by decide)) (nm_r (es_g31 g) ?_)
        obtain ⟨u', v', hQ', hc1, hc2, hX, hY⟩ := em_pass hg 6 0 (by omega) (x_records, x_removedCount, x_flushed, x_drafted, x_height, x_time, x_foundAt, x_recordStream, x_recordType, x_recordVersion, x_recordValue, x_originProjection, x_originPosition, x_originInstruction, x_joined, x_removed, x_eventCount, x_cutLevel, x_draftType, x_draftValue, x_ops, x_arguments, x_programLength, x_states, x_noted, x_stack, x_metHeight, x_groupType, x_cursor, x_keptCursor, x_parked, x_rowCount, x_rowPosition, x_rowTimes, x_rowDue) (y_count, y_flushed, y_calls, y_drafted, y_top, y_time, y_isCut, y_removed, y_stream, y_type, y_from, y_by, y_value, y_version, y_on, y_call, y_draftType, y_draftValue, y_op, y_with, y_length, y_height, y_torn, y_stack, y_position, y_cells, y_noted, y_wanted, y_formed, y_cursor, y_parked, y_where, y_often, y_due, y_many, y_found) nw hQ hgr.2.2.1.2.2.1 (by omega)
        refine ⟨_, hX _ ?_⟩
        have hy : ∀ post : Int32 → SY → Prop, (match v' with | (y_count, y_flushed, y_calls, y_drafted, y_top, y_time, y_isCut, y_removed, y_stream, y_type, y_from, y_by, y_value, y_version, y_on, y_call, y_draftType, y_draftValue, y_op, y_with, y_length, y_height, y_torn, y_stack, y_position, y_cells, y_noted, y_wanted, y_formed, y_cursor, y_parked, y_where, y_often, y_due, y_many, y_found) => wY_take_79 post (nI g) (nI (16 + 8 * g)) y_count y_flushed y_calls y_drafted y_top y_time y_isCut y_removed y_stream y_type y_from y_by y_value y_version y_on y_call y_draftType y_draftValue y_op y_with y_length y_height y_torn y_stack y_position y_cells y_noted y_wanted y_formed y_cursor y_parked y_where y_often y_due y_many y_found) → wpY_take post (y_count, y_flushed, y_calls, y_drafted, y_top, y_time, y_isCut, y_removed, y_stream, y_type, y_from, y_by, y_value, y_version, y_on, y_call, y_draftType, y_draftValue, y_op, y_with, y_length, y_height, y_torn, y_stack, y_position, y_cells, y_noted, y_wanted, y_formed, y_cursor, y_parked, y_where, y_often, y_due, y_many, y_found) (nI g) := by
          intro post hp
          dsimp only [wpY_take]
          refine ey_outF 2 g rfl (by decide) hg (br_t rfl ⟨vg2, br_f zf ⟨vg6, br_f ?_ (nm_r (e' := nI (16 + 8 * g)) (by rw [es_8]; exact nI_add 16 _) ⟨_, hY post hp⟩)⟩⟩)
          rw [cg, hgr.2.2.1.2.1]
          exact fun w => by have := es_inj (b := 6) w (by omega) (by decide); omega
        have hc1' : es_cnt u' g = nI nt := hc1.trans hgr.2.2.1.1
        have hc2' : ¬ es_gty u' g = -1 := by rw [hc2]; exact z
        generalize wpY_take = WT at hy ⊢
        obtain ⟨x_records, x_removedCount, x_flushed, x_drafted, x_height, x_time, x_foundAt, x_recordStream, x_recordType, x_recordVersion, x_recordValue, x_originProjection, x_originPosition, x_originInstruction, x_joined, x_removed, x_eventCount, x_cutLevel, x_draftType, x_draftValue, x_ops, x_arguments, x_programLength, x_states, x_noted, x_stack, x_metHeight, x_groupType, x_cursor, x_keptCursor, x_parked, x_rowCount, x_rowPosition, x_rowTimes, x_rowDue⟩ := u'
        obtain ⟨t_1, t_2, t_3, t_4, t_5, t_6, t_7, t_8, t_9, t_10, t_11, t_12, t_13, t_14, t_15, t_16, t_17, t_18, t_19, t_20, t_21, t_22, t_23, t_24, t_25, t_26, t_27, t_28, t_29, t_30, t_31, t_32, t_33, t_34, t_35, t_36⟩ := v'
        exact em_take2 (P := fun _ u' v' => i_Rel (k + 4) u' v') hQ' hg hc1' h6 hc2' _ hy (fun r u' v' hq' => ⟨q, by omega, c, f, d, L, hq'⟩)
      · have e6 : nt = 6 := by omega
        refine br_f (by rw [e6]; decide) ?_
        dsimp only [wpY_take]
        refine ey_outF 2 g rfl (by decide) hg (br_t rfl ⟨vg2, br_f zf ⟨vg6, br_t ?_ ⟨rfl, J⟩⟩⟩)
        rw [cg, hgr.2.2.1.2.1, e6]; rfl
end
