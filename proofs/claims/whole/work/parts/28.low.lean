section
/-! LOW, size -/
variable {x_records x_removedCount x_flushed x_drafted x_height x_time x_foundAt : Int32} {x_recordStream x_recordType x_recordVersion x_recordValue x_originProjection x_originPosition x_originInstruction x_joined x_removed x_eventCount x_cutLevel x_draftType x_draftValue x_ops x_arguments x_programLength x_states x_noted x_stack x_metHeight x_groupType x_cursor x_keptCursor x_parked x_rowCount x_rowPosition x_rowTimes x_rowDue : Nat → Int32} {y_count y_flushed y_calls y_drafted y_top y_time : Int32} {y_isCut y_removed y_stream y_type y_from y_by y_value y_version y_on y_call y_draftType y_draftValue y_op y_with y_length y_height y_torn y_stack y_position y_cells y_noted y_wanted y_formed y_cursor y_parked y_where y_often y_due y_many y_found : Nat → Int32} {c f q : Nat} {cut rm str ty fr byi val ver onn call oi jn ec cl : Nat → Int32} {d : Nat} {L : Nat → Nat} {g nt nw nk u k : Nat}
theorem ex_lowG {post : Int32 → Prop} (hg : g < 2) (h : es_Grp c f g nt nw nk u k x_cursor x_keptCursor x_rowCount x_rowPosition x_rowTimes x_rowDue y_cursor y_many y_where y_often y_due) (hc : k < 2 ^ 31)
    (h0 : nk = 0 → post (nI k)) (h1 : ∀ a, 0 < nk → a < k → x_rowPosition (18 * g + 12) = nI a → post (nI a)) : wpX_lowOfGroup post (x_records, x_removedCount, x_flushed, x_drafted, x_height, x_time, x_foundAt, x_recordStream, x_recordType, x_recordVersion, x_recordValue, x_originProjection, x_originPosition, x_originInstruction, x_joined, x_removed, x_eventCount, x_cutLevel, x_draftType, x_draftValue, x_ops, x_arguments, x_programLength, x_states, x_noted, x_stack, x_metHeight, x_groupType, x_cursor, x_keptCursor, x_parked, x_rowCount, x_rowPosition, x_rowTimes, x_rowDue) (nI g) := by
  obtain ⟨a0, a1, a2, a3, a4, a5, a6, a7, a8, a9, a10⟩ := h
  have cr : (nI (3 * g + 2)).toNatClampNeg = 3 * g + 2 := nI_clamp (by omega)
  have vr : vp_in (nI (3 * g + 2)) 6 := vp_in_nI (by omega) (by decide)
  refine ⟨vp_in_nI hg (by decide), nm_r (e' := nI k) (by rw [nI_clamp (by omega), a1.2.2.1]) (nm_r (es_g32 g) ?_)⟩
  refine loop_0 (fun n i s => wX_lowOfGroup_16 post (nI (3 * g + 2)) x_records x_removedCount x_flushed x_drafted x_height x_time x_foundAt x_recordStream x_recordType x_recordVersion x_recordValue x_originProjection x_originPosition x_originInstruction x_joined x_removed x_eventCount x_cutLevel x_draftType x_draftValue x_ops x_arguments x_programLength x_states x_noted x_stack x_metHeight x_groupType x_cursor x_keptCursor x_parked x_rowCount x_rowPosition x_rowTimes x_rowDue n s (nI i)) (fun i s => (i = 0 → s = nI k) ∧ (0 < i → s = x_rowPosition (18 * g + 12))) nk (nI k) ⟨fun _ => rfl, fun h => absurd h (Nat.lt_irrefl 0)⟩ ?_ ?_
  · intro n s hs
    refine ⟨vr, br_t ?_ ?_⟩
    · rw [cr, a2.2.2.2.2.1]; exact Int32.le_refl _
    · by_cases z : nk = 0
      · rw [hs.1 z]; exact h0 z
      · obtain ⟨⟨a, ha, ea⟩, _⟩ := a6 0 (by omega)
        rw [Nat.add_zero] at ea
        rw [hs.2 (by omega), ea]
        exact h1 a (by omega) ha ea
  · intro n i s hi hs ih
    refine ⟨vr, br_f ?_ ?_⟩
    · rw [cr, a2.2.2.2.2.1]; exact nI_ge hi (by omega)
    · rw [es_6, nI_add, nI_clamp (by omega), show 6 * (3 * g + 2) + i = 18 * g + 12 + i by omega]
      refine ⟨vp_in_nI (by omega) (by decide), nm_e ?_⟩
      by_cases z : i = 0
      · subst z
        obtain ⟨⟨a, ha, ea⟩, _⟩ := a6 0 (by omega)
        rw [hs.1 rfl]
        refine br_f ?_ (nm_r (nI_1 _) (ih _ ⟨fun w => by omega, fun _ => rfl⟩))
        rw [ea]; exact nI_ge ha hc
      · have hlt := a10 0 i (by omega) hi
        rw [Nat.add_zero] at hlt
        rw [hs.2 (by omega)]
        refine br_t (es_nlt (es_ltas hlt)) (nm_r (nI_1 _) (ih _ ⟨fun w => by omega, fun _ => rfl⟩))
theorem em_low2 (H : es_Q c f d L q (x_records, x_removedCount, x_flushed, x_drafted, x_height, x_time, x_foundAt, x_recordStream, x_recordType, x_recordVersion, x_recordValue, x_originProjection, x_originPosition, x_originInstruction, x_joined, x_removed, x_eventCount, x_cutLevel, x_draftType, x_draftValue, x_ops, x_arguments, x_programLength, x_states, x_noted, x_stack, x_metHeight, x_groupType, x_cursor, x_keptCursor, x_parked, x_rowCount, x_rowPosition, x_rowTimes, x_rowDue) (y_count, y_flushed, y_calls, y_drafted, y_top, y_time, y_isCut, y_removed, y_stream, y_type, y_from, y_by, y_value, y_version, y_on, y_call, y_draftType, y_draftValue, y_op, y_with, y_length, y_height, y_torn, y_stack, y_position, y_cells, y_noted, y_wanted, y_formed, y_cursor, y_parked, y_where, y_often, y_due, y_many, y_found)) : ∀ m i, i + m = 2 → ∀ e, e ≤ f → ∃ e', e' ≤ f ∧ (∀ post : Int32 → Prop, post (nI e') → wX_low_51 post x_records x_removedCount x_flushed x_drafted x_height x_time x_foundAt x_recordStream x_recordType x_recordVersion x_recordValue x_originProjection x_originPosition x_originInstruction x_joined x_removed x_eventCount x_cutLevel x_draftType x_draftValue x_ops x_arguments x_programLength x_states x_noted x_stack x_metHeight x_groupType x_cursor x_keptCursor x_parked x_rowCount x_rowPosition x_rowTimes x_rowDue (m + 1) (nI e) (nI i)) ∧ (∀ post : Int32 → Prop, post (nI e') → wY_low_50 post y_count y_flushed y_calls y_drafted y_top y_time y_isCut y_removed y_stream y_type y_from y_by y_value y_version y_on y_call y_draftType y_draftValue y_op y_with y_length y_height y_torn y_stack y_position y_cells y_noted y_wanted y_formed y_cursor y_parked y_where y_often y_due y_many y_found (m + 1) (nI e) (nI i)) := by
  have hfc : f ≤ 2000 := by have := H.1.2.2.2.2.2.2.2.2.2.2.2.2.2.1; omega
  intro m
  induction m with
  | zero =>
    intro i hi e he
    exact ⟨e, he, fun post hp => br_t (nI_le (a := 2) (by omega) (by omega)) hp, fun post hp => br_t (nI_le (a := 2) (by omega) (by omega)) hp⟩
  | succ m ih =>
    intro i hi e he
    have hi2 : i < 2 := by omega
    obtain ⟨hfm, nt, nw, nk, w, l, hz, hgr⟩ := H.2.2.2.2.1.2.2 i hi2
    have hff := es_Frm_f hfm
    have hl := hgr.1.2.1
    have ci : (nI i).toNatClampNeg = i := nI_clamp (by omega)
    have vi : vp_in (nI i) 2 := vp_in_nI hi2 (by decide)
    have n2 : ¬ (2 : Int32) ≤ nI i := nI_ge (b := 2) hi2 (by decide)
    by_cases hf : y_formed i = 0
    · obtain ⟨e', he', hX, hY⟩ := ih (i + 1) (by omega) e he
      refine ⟨e', he', fun post hp => br_f n2 ⟨vi, br_t ?_ (nm_r (nI_1 _) (hX post hp))⟩, fun post hp => br_f n2 ⟨vi, br_t ?_ (nm_r (nI_1 _) (hY post hp))⟩⟩
      · rw [ci]; exact hff.mpr hf
      · rw [ci]; exact hf
    · have hgx : ¬ x_groupType (nI i).toNatClampNeg = -1 := by rw [ci]; exact fun z => hf (hff.mp z)
      have hgy : ¬ y_formed (nI i).toNatClampNeg = 0 := by rw [ci]; exact hf
      have v4 : vp_in (2 + nI i) 4 := by rw [es_2g]; exact vp_in_nI (by omega) (by decide)
      have c4 : (2 + nI i).toNatClampNeg = 2 + i := by rw [es_2g, nI_clamp (by omega)]
      have hcy : y_cursor (2 + nI i).toNatClampNeg = nI l := by rw [c4, hgr.2.1.2.2.2]
      have v46 : vp_in (4 + nI i) 6 := by rw [es_4g]; exact vp_in_nI (by omega) (by decide)
      have c46 : (4 + nI i).toNatClampNeg = 4 + i := by rw [es_4g, nI_clamp (by omega)]
      have hmk : y_many (4 + nI i).toNatClampNeg = nI nk := by rw [c46, hgr.2.2.1.2.2.2.2.2]
      have hnk := hgr.1.2.2.2
      have e32 : 32 + 8 * nI i = nI (32 + 8 * i) := by rw [es_8]; exact nI_add 32 _
      have v32 : vp_in (32 + 8 * nI i) 64 := by rw [e32]; exact vp_in_nI (by omega) (by decide)
      have c32 : (32 + 8 * nI i).toNatClampNeg = 32 + 8 * i := by rw [e32, nI_clamp (by omega)]
      by_cases n0 : nk = 0
      · -- the kept cursor alone
        by_cases z : e ≤ l
        · obtain ⟨e', he', hX, hY⟩ := ih (i + 1) (by omega) e he
          refine ⟨e', he', fun post hp => br_f n2 ⟨vi, br_f hgx (ex_lowG hi2 hgr (by omega) (fun _ => br_t (nI_le z (by omega)) (nm_r (nI_1 _) (hX post hp))) (fun a h => absurd h (by omega)))⟩, fun post hp => br_f n2 ⟨vi, br_f hgy ⟨v4, br_t ?_ ⟨v46, br_t ?_ (nm_r (nI_1 _) (hY post hp))⟩⟩⟩⟩
          · rw [hcy]; exact nI_le z (by omega)
          · rw [hmk, n0]; exact Int32.le_refl 0
        · obtain ⟨e', he', hX, hY⟩ := ih (i + 1) (by omega) l (by omega)
          refine ⟨e', he', fun post hp => br_f n2 ⟨vi, br_f hgx (ex_lowG hi2 hgr (by omega) (fun _ => br_f (nI_ge (by omega) (by omega)) (nm_r (nI_1 _) (hX post hp))) (fun a h => absurd h (by omega)))⟩, fun post hp => br_f n2 ⟨vi, br_f hgy ⟨v4, br_f ?_ ⟨v4, nm_r hcy ⟨v46, br_t ?_ (nm_r (nI_1 _) (hY post hp))⟩⟩⟩⟩⟩
          · rw [hcy]; exact nI_ge (by omega) (by omega)
          · rw [hmk, n0]; exact Int32.le_refl 0
      · obtain ⟨⟨a, ha, ea⟩, hwh, _⟩ := hgr.2.2.2.2.2.2.1 0 (by omega)
        rw [Nat.add_zero] at ea hwh
        rw [Nat.add_zero] at hwh
        have hw : y_where (32 + 8 * nI i).toNatClampNeg = nI a := by rw [c32, hwh, ea]
        have ym : ¬ y_many (4 + nI i).toNatClampNeg ≤ 0 := by rw [hmk]; exact nI_nle (by omega) (by omega)
        have huniq : ∀ b, x_rowPosition (18 * i + 12) = nI b → b < l → b = a := fun b hb hbl => es_inj (hb.symm.trans ea) (by omega) (by omega)
        by_cases z : e ≤ a
        · obtain ⟨e', he', hX, hY⟩ := ih (i + 1) (by omega) e he
          refine ⟨e', he', fun post hp => br_f n2 ⟨vi, br_f hgx (ex_lowG hi2 hgr (by omega) (fun h => absurd h n0) (fun b _ hbl hb => ?_))⟩, fun post hp => br_f n2 ⟨vi, br_f hgy ⟨v4, br_t ?_ ⟨v46, br_f ym ⟨v32, br_t ?_ (nm_r (nI_1 _) (hY post hp))⟩⟩⟩⟩⟩
          · rw [huniq b hb hbl]
            exact br_t (nI_le z (by omega)) (nm_r (nI_1 _) (hX post hp))
          · rw [hcy]; exact nI_le (by omega) (by omega)
          · rw [hw]; exact nI_le z (by omega)
        · obtain ⟨e', he', hX, hY⟩ := ih (i + 1) (by omega) a (by omega)
          have fin : ∀ (post : Int32 → Prop) (x : Nat), post (nI e') → a < x → x ≤ f → wY_low_88 post (wY_low_50 post y_count y_flushed y_calls y_drafted y_top y_time y_isCut y_removed y_stream y_type y_from y_by y_value y_version y_on y_call y_draftType y_draftValue y_op y_with y_length y_height y_torn y_stack y_position y_cells y_noted y_wanted y_formed y_cursor y_parked y_where y_often y_due y_many y_found (m + 1)) (nI x) (nI i) y_count y_flushed y_calls y_drafted y_top y_time y_isCut y_removed y_stream y_type y_from y_by y_value y_version y_on y_call y_draftType y_draftValue y_op y_with y_length y_height y_torn y_stack y_position y_cells y_noted y_wanted y_formed y_cursor y_parked y_where y_often y_due y_many y_found := by
            intro post x hp hx hxf
            refine ⟨v46, br_f ym ⟨v32, br_f ?_ ⟨v32, nm_r hw (nm_r (nI_1 _) (hY post hp))⟩⟩⟩
            rw [hw]; exact nI_ge hx (by omega)
          refine ⟨e', he', fun post hp => br_f n2 ⟨vi, br_f hgx (ex_lowG hi2 hgr (by omega) (fun h => absurd h n0) (fun b _ hbl hb => ?_))⟩, fun post hp => br_f n2 ⟨vi, br_f hgy ⟨v4, br_c (fun _ => fin post e hp (by omega) he) (fun _ => ⟨v4, nm_r hcy (fin post l hp ha (by omega))⟩)⟩⟩⟩
          rw [huniq b hb hbl]
          exact br_f (nI_ge (by omega) (by omega)) (nm_r (nI_1 _) (hX post hp))
theorem em_low1 (H : es_Q c f d L q (x_records, x_removedCount, x_flushed, x_drafted, x_height, x_time, x_foundAt, x_recordStream, x_recordType, x_recordVersion, x_recordValue, x_originProjection, x_originPosition, x_originInstruction, x_joined, x_removed, x_eventCount, x_cutLevel, x_draftType, x_draftValue, x_ops, x_arguments, x_programLength, x_states, x_noted, x_stack, x_metHeight, x_groupType, x_cursor, x_keptCursor, x_parked, x_rowCount, x_rowPosition, x_rowTimes, x_rowDue) (y_count, y_flushed, y_calls, y_drafted, y_top, y_time, y_isCut, y_removed, y_stream, y_type, y_from, y_by, y_value, y_version, y_on, y_call, y_draftType, y_draftValue, y_op, y_with, y_length, y_height, y_torn, y_stack, y_position, y_cells, y_noted, y_wanted, y_formed, y_cursor, y_parked, y_where, y_often, y_due, y_many, y_found)) : ∀ m i, i + m = 3 → ∀ e, e ≤ f → ∃ e', e' ≤ f ∧ (∀ post : Int32 → Prop, post (nI e') → wX_low_7 post x_records x_removedCount x_flushed x_drafted x_height x_time x_foundAt x_recordStream x_recordType x_recordVersion x_recordValue x_originProjection x_originPosition x_originInstruction x_joined x_removed x_eventCount x_cutLevel x_draftType x_draftValue x_ops x_arguments x_programLength x_states x_noted x_stack x_metHeight x_groupType x_cursor x_keptCursor x_parked x_rowCount x_rowPosition x_rowTimes x_rowDue (m + 1) (nI e) (nI i)) ∧ (∀ post : Int32 → Prop, post (nI e') → wY_low_7 post y_count y_flushed y_calls y_drafted y_top y_time y_isCut y_removed y_stream y_type y_from y_by y_value y_version y_on y_call y_draftType y_draftValue y_op y_with y_length y_height y_torn y_stack y_position y_cells y_noted y_wanted y_formed y_cursor y_parked y_where y_often y_due y_many y_found (m + 1) (nI e) (nI i)) := by
  have hfc : f ≤ 2000 := by have := H.1.2.2.2.2.2.2.2.2.2.2.2.2.2.1; omega
  intro m
  induction m with
  | zero =>
    intro i hi e he
    obtain ⟨e', he', hX, hY⟩ := em_low2 H 2 0 (by omega) e he
    exact ⟨e', he', fun post hp => br_t (nI_le (a := 3) (by omega) (by omega)) ⟨_, hX post hp⟩, fun post hp => br_t (nI_le (a := 3) (by omega) (by omega)) ⟨_, hY post hp⟩⟩
  | succ m ih =>
    intro i hi e he
    have hi3 : i < 3 := by omega
    have ci : (nI i).toNatClampNeg = i := nI_clamp (by omega)
    have v4 : vp_in (nI i) 4 := vp_in_nI (by omega) (by decide)
    have n3 : ¬ (3 : Int32) ≤ nI i := nI_ge (b := 3) hi3 (by decide)
    have hlen := (H.2.2.1.2.1 i).1
    have hxl : x_programLength (nI i).toNatClampNeg = nI (L i) := by rw [ci, ← H.2.2.1.1, hlen]
    have hyl : y_length (nI i).toNatClampNeg = nI (L i) := by rw [ci, hlen]
    have hL14 := (H.2.2.1.2.1 i).2
    have ex : nI (11 * (3 * 1 + i)) + 10 = nI (11 * (3 + i) + 10) := by rw [show 11 * (3 * 1 + i) = 11 * (3 + i) by omega]; exact nI_add _ 10
    have vx : vp_in (nI (11 * (3 * 1 + i)) + 10) 99 := by rw [ex]; exact vp_in_nI (by omega) (by decide)
    have cx : (nI (11 * (3 * 1 + i)) + 10).toNatClampNeg = 11 * (3 + i) + 10 := by rw [ex, nI_clamp (by omega)]
    by_cases l0 : L i = 0
    · obtain ⟨e', he', hX, hY⟩ := ih (i + 1) (by omega) e he
      refine ⟨e', he', fun post hp => br_f n3 (ex_stateBase (m := 1) ⟨vx, nm_e ⟨v4, br_t ?_ (nm_r (nI_1 _) (hX post hp))⟩⟩), fun post hp => br_f n3 ⟨v4, br_t ?_ (nm_r (nI_1 _) (hY post hp))⟩⟩
      · rw [hxl, l0]; exact Int32.le_refl 0
      · rw [hyl, l0]; exact Int32.le_refl 0
    · obtain ⟨_, ⟨⟨a, ha, e1, e2⟩, _⟩, _⟩ := H.2.2.2.1 i hi3 (by omega)
      have xl : ¬ x_programLength (nI i).toNatClampNeg ≤ 0 := by rw [hxl]; exact nI_nle (by omega) (by omega)
      have yl : ¬ y_length (nI i).toNatClampNeg ≤ 0 := by rw [hyl]; exact nI_nle (by omega) (by omega)
      have e3 : 3 + nI i = nI (3 + i) := nI_add 3 i
      have v9 : vp_in (3 + nI i) 9 := by rw [e3]; exact vp_in_nI (by omega) (by decide)
      have c9 : y_position (3 + nI i).toNatClampNeg = nI a := by rw [e3, nI_clamp (by omega), e2]
      by_cases z : e ≤ a
      · obtain ⟨e', he', hX, hY⟩ := ih (i + 1) (by omega) e he
        refine ⟨e', he', fun post hp => br_f n3 (ex_stateBase (m := 1) ⟨vx, nm_r (e' := nI a) (by rw [cx, e1]) ⟨v4, br_f xl (br_t (nI_le z (by omega)) (nm_r (nI_1 _) (hX post hp)))⟩⟩), fun post hp => br_f n3 ⟨v4, br_f yl ⟨v9, br_t ?_ (nm_r (nI_1 _) (hY post hp))⟩⟩⟩
        rw [c9]; exact nI_le z (by omega)
      · obtain ⟨e', he', hX, hY⟩ := ih (i + 1) (by omega) a (by omega)
        refine ⟨e', he', fun post hp => br_f n3 (ex_stateBase (m := 1) ⟨vx, nm_r (e' := nI a) (by rw [cx, e1]) ⟨v4, br_f xl (br_f (nI_ge (by omega) (by omega)) (nm_r (nI_1 _) (hX post hp)))⟩⟩), fun post hp => br_f n3 ⟨v4, br_f yl ⟨v9, br_f ?_ ⟨v9, nm_r c9 (nm_r (nI_1 _) (hY post hp))⟩⟩⟩⟩
        rw [c9]; exact nI_ge (by omega) (by omega)
theorem em_low (H : es_Q c f d L q (x_records, x_removedCount, x_flushed, x_drafted, x_height, x_time, x_foundAt, x_recordStream, x_recordType, x_recordVersion, x_recordValue, x_originProjection, x_originPosition, x_originInstruction, x_joined, x_removed, x_eventCount, x_cutLevel, x_draftType, x_draftValue, x_ops, x_arguments, x_programLength, x_states, x_noted, x_stack, x_metHeight, x_groupType, x_cursor, x_keptCursor, x_parked, x_rowCount, x_rowPosition, x_rowTimes, x_rowDue) (y_count, y_flushed, y_calls, y_drafted, y_top, y_time, y_isCut, y_removed, y_stream, y_type, y_from, y_by, y_value, y_version, y_on, y_call, y_draftType, y_draftValue, y_op, y_with, y_length, y_height, y_torn, y_stack, y_position, y_cells, y_noted, y_wanted, y_formed, y_cursor, y_parked, y_where, y_often, y_due, y_many, y_found)) : ∃ e, e ≤ f ∧ (∀ post : Int32 → Prop, post (nI e) → wpX_low post (x_records, x_removedCount, x_flushed, x_drafted, x_height, x_time, x_foundAt, x_recordStream, x_recordType, x_recordVersion, x_recordValue, x_originProjection, x_originPosition, x_originInstruction, x_joined, x_removed, x_eventCount, x_cutLevel, x_draftType, x_draftValue, x_ops, x_arguments, x_programLength, x_states, x_noted, x_stack, x_metHeight, x_groupType, x_cursor, x_keptCursor, x_parked, x_rowCount, x_rowPosition, x_rowTimes, x_rowDue)) ∧ (∀ post : Int32 → Prop, post (nI e) → wpY_low post (y_count, y_flushed, y_calls, y_drafted, y_top, y_time, y_isCut, y_removed, y_stream, y_type, y_from, y_by, y_value, y_version, y_on, y_call, y_draftType, y_draftValue, y_op, y_with, y_length, y_height, y_torn, y_stack, y_position, y_cells, y_noted, y_wanted, y_formed, y_cursor, y_parked, y_where, y_often, y_due, y_many, y_found)) := by
  obtain ⟨e, he, hX, hY⟩ := em_low1 H 3 0 (by omega) f (Nat.le_refl f)
  refine ⟨e, he, fun post hp => ⟨4, ?_⟩, fun post hp => ⟨4, ?_⟩⟩
  · have := hX post hp
    rw [← H.1.2.2.1] at this
    exact this
  · have := hY post hp
    rw [← H.1.2.2.2.1] at this
    exact this
theorem i_vc_size {k : Nat} {u : SX} {v : SY} (I : i_Rel k u v) (hk : k + 4 ≤ 2048) (v1 : Int32) : wpX_size (fun r => wpY_size (fun r' => r' = r ∧ i_Rel (k + 4) u v) v v1) u v1 := by
  obtain ⟨x_records, x_removedCount, x_flushed, x_drafted, x_height, x_time, x_foundAt, x_recordStream, x_recordType, x_recordVersion, x_recordValue, x_originProjection, x_originPosition, x_originInstruction, x_joined, x_removed, x_eventCount, x_cutLevel, x_draftType, x_draftValue, x_ops, x_arguments, x_programLength, x_states, x_noted, x_stack, x_metHeight, x_groupType, x_cursor, x_keptCursor, x_parked, x_rowCount, x_rowPosition, x_rowTimes, x_rowDue⟩ := u
  obtain ⟨y_count, y_flushed, y_calls, y_drafted, y_top, y_time, y_isCut, y_removed, y_stream, y_type, y_from, y_by, y_value, y_version, y_on, y_call, y_draftType, y_draftValue, y_op, y_with, y_length, y_height, y_torn, y_stack, y_position, y_cells, y_noted, y_wanted, y_formed, y_cursor, y_parked, y_where, y_often, y_due, y_many, y_found⟩ := v
  have J := i_up I
  obtain ⟨q, hq, c, f, d, L, hQ⟩ := I
  obtain ⟨e, he, hX, hY⟩ := em_low hQ
  have hc2 : c ≤ 2000 := hQ.1.2.2.2.2.2.2.2.2.2.2.2.2.2.1.1
  have hrc := es_rc_le y_removed c
  obtain ⟨r1, r2, r3, r4, r5, r6, _⟩ := hQ.1
  dsimp only [wpX_size, wpY_size]
  rcases es_rg v1 4 (by decide) with h | ⟨w, hw, rfl⟩
  · by_cases z : v1 < 0
    · exact br_t z (br_t z ⟨rfl, J⟩)
    · have z3 : (3 : Int32) < v1 := es_ltle (show (3 : Int32) < nI 4 by decide) (h.resolve_left z)
      exact br_f z (br_t z3 (br_f z (br_t z3 ⟨rfl, J⟩)))
  · have n0 : ¬ nI w < 0 := nI_pos (by omega)
    have n3 : ¬ (3 : Int32) < nI w := nI_nlt (a := 3) (by omega) (by decide)
    have hcases : w = 0 ∨ w = 1 ∨ w = 2 ∨ w = 3 := by omega
    rcases hcases with e | e | e | e <;> subst e
    · exact br_f n0 (br_f n3 (br_t rfl (br_f n0 (br_f n3 (br_t rfl ⟨by rw [r1, r2], J⟩)))))
    · exact br_f n0 (br_f n3 (br_f (by decide) (br_t rfl (br_f n0 (br_f n3 (br_f (by decide) (br_t rfl ⟨by rw [r3, r4], J⟩)))))))
    · refine br_f n0 (br_f n3 (br_f (by decide) (br_f (by decide) (br_t rfl (br_f n0 (br_f n3 (br_f (by decide) (br_f (by decide) (br_t rfl ?_)))))))))
      have key : wpY_there (fun r_6 => r_6 = nI (c - es_rc y_removed c) ∧ i_Rel (k + 4) (x_records, x_removedCount, x_flushed, x_drafted, x_height, x_time, x_foundAt, x_recordStream, x_recordType, x_recordVersion, x_recordValue, x_originProjection, x_originPosition, x_originInstruction, x_joined, x_removed, x_eventCount, x_cutLevel, x_draftType, x_draftValue, x_ops, x_arguments, x_programLength, x_states, x_noted, x_stack, x_metHeight, x_groupType, x_cursor, x_keptCursor, x_parked, x_rowCount, x_rowPosition, x_rowTimes, x_rowDue) (y_count, y_flushed, y_calls, y_drafted, y_top, y_time, y_isCut, y_removed, y_stream, y_type, y_from, y_by, y_value, y_version, y_on, y_call, y_draftType, y_draftValue, y_op, y_with, y_length, y_height, y_torn, y_stack, y_position, y_cells, y_noted, y_wanted, y_formed, y_cursor, y_parked, y_where, y_often, y_due, y_many, y_found)) (y_count, y_flushed, y_calls, y_drafted, y_top, y_time, y_isCut, y_removed, y_stream, y_type, y_from, y_by, y_value, y_version, y_on, y_call, y_draftType, y_draftValue, y_op, y_with, y_length, y_height, y_torn, y_stack, y_position, y_cells, y_noted, y_wanted, y_formed, y_cursor, y_parked, y_where, y_often, y_due, y_many, y_found) := by
        subst r2 r4 r5
        exact ey_there hc2 ⟨rfl, J⟩
      rw [r1, r6, pk_sub hrc]
      rw [r1, r6] at key
      exact key
    · exact br_f n0 (br_f n3 (br_f (by decide) (br_f (by decide) (br_f (by decide) (br_t rfl (hX _ (br_f n0 (br_f n3 (br_f (by decide) (br_f (by decide) (br_f (by decide) (br_t rfl (hY _ ⟨rfl, J⟩)))))))))))))
end
