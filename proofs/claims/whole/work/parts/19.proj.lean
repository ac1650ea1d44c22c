section
/-! code, drop, position, cell, found, group -/
variable {x_records x_removedCount x_flushed x_drafted x_height x_time x_foundAt : Int32} {x_recordStream x_recordType x_recordVersion x_recordValue x_originProjection x_originPosition x_originInstruction x_joined x_removed x_eventCount x_cutLevel x_draftType x_draftValue x_ops x_arguments x_programLength x_states x_noted x_stack x_metHeight x_groupType x_cursor x_keptCursor x_parked x_rowCount x_rowPosition x_rowTimes x_rowDue : Nat → Int32} {y_count y_flushed y_calls y_drafted y_top y_time : Int32} {y_isCut y_removed y_stream y_type y_from y_by y_value y_version y_on y_call y_draftType y_draftValue y_op y_with y_length y_height y_torn y_stack y_position y_cells y_noted y_wanted y_formed y_cursor y_parked y_where y_often y_due y_many y_found : Nat → Int32} {c f q : Nat} {cut rm str ty fr byi val ver onn call oi jn ec cl : Nat → Int32} {d : Nat} {L : Nat → Nat} {post : Int32 → Prop}
theorem ex_stand (p : Int32) (h1 : (p < 0 ∨ nI 3 ≤ p) → post (-1)) (h2 : ∀ j, j < 3 → p = nI j → x_programLength j = 0 → post (-4)) (h3 : ∀ j, j < 3 → p = nI j → ¬ x_programLength j = 0 → post 0) : wpX_standing post (x_records, x_removedCount, x_flushed, x_drafted, x_height, x_time, x_foundAt, x_recordStream, x_recordType, x_recordVersion, x_recordValue, x_originProjection, x_originPosition, x_originInstruction, x_joined, x_removed, x_eventCount, x_cutLevel, x_draftType, x_draftValue, x_ops, x_arguments, x_programLength, x_states, x_noted, x_stack, x_metHeight, x_groupType, x_cursor, x_keptCursor, x_parked, x_rowCount, x_rowPosition, x_rowTimes, x_rowDue) p := by
  dsimp only [wpX_standing]
  rcases es_rg p 3 (by decide) with h | ⟨j, hj, rfl⟩
  · exact ex_isProj0 h (br_t rfl (h1 h))
  · refine ex_isProj1 hj (br_f (by decide) ⟨vp_in_nI (by omega) (by decide), ?_⟩)
    rw [nI_clamp (by omega)]
    exact br_c (fun z => h2 j hj rfl z) (fun z => h3 j hj rfl z)
theorem ey_stand (p : Int32) (h1 : (p < 0 ∨ nI 3 ≤ p) → post (-1)) (h2 : ∀ j, j < 3 → p = nI j → y_length j = 0 → post (-4)) (h3 : ∀ j, j < 3 → p = nI j → ¬ y_length j = 0 → post 0) : wpY_without post (y_count, y_flushed, y_calls, y_drafted, y_top, y_time, y_isCut, y_removed, y_stream, y_type, y_from, y_by, y_value, y_version, y_on, y_call, y_draftType, y_draftValue, y_op, y_with, y_length, y_height, y_torn, y_stack, y_position, y_cells, y_noted, y_wanted, y_formed, y_cursor, y_parked, y_where, y_often, y_due, y_many, y_found) p := by
  dsimp only [wpY_without]
  rcases es_rg p 3 (by decide) with h | ⟨j, hj, rfl⟩
  · exact ey_outT 3 rfl h (br_f (by decide) (h1 h))
  · refine ey_outF 3 j rfl (by decide) hj (br_t rfl ⟨vp_in_nI (by omega) (by decide), ?_⟩)
    rw [nI_clamp (by omega)]
    exact br_c (fun z => h2 j hj rfl z) (fun z => h3 j hj rfl z)
/-- both stand alike -/
theorem em_stand (p : Int32) :
    ∃ r : Int32, (∀ post : Int32 → Prop, post r → wpX_standing post (x_records, x_removedCount, x_flushed, x_drafted, x_height, x_time, x_foundAt, x_recordStream, x_recordType, x_recordVersion, x_recordValue, x_originProjection, x_originPosition, x_originInstruction, x_joined, x_removed, x_eventCount, x_cutLevel, x_draftType, x_draftValue, x_ops, x_arguments, y_length, x_states, x_noted, x_stack, x_metHeight, x_groupType, x_cursor, x_keptCursor, x_parked, x_rowCount, x_rowPosition, x_rowTimes, x_rowDue) p) ∧ (∀ post : Int32 → Prop, post r → wpY_without post (y_count, y_flushed, y_calls, y_drafted, y_top, y_time, y_isCut, y_removed, y_stream, y_type, y_from, y_by, y_value, y_version, y_on, y_call, y_draftType, y_draftValue, y_op, y_with, y_length, y_height, y_torn, y_stack, y_position, y_cells, y_noted, y_wanted, y_formed, y_cursor, y_parked, y_where, y_often, y_due, y_many, y_found) p) ∧ ((r = 0 ∧ ∃ j, j < 3 ∧ p = nI j ∧ ¬ y_length j = 0) ∨ ¬ r = 0) := by
  rcases es_rg p 3 (by decide) with h | ⟨j, hj, rfl⟩
  · refine ⟨-1, fun post hp => ex_stand p (fun _ => hp) ?_ ?_, fun post hp => ey_stand p (fun _ => hp) ?_ ?_, Or.inr (by decide)⟩
    all_goals
      intro j hj e
      subst e
      exfalso
      rcases h with h | h
      · exact nI_pos (by omega) h
      · exact nI_ge hj (by decide) h
  · by_cases z : y_length j = 0
    · refine ⟨-4, fun post hp => ?_, fun post hp => ?_, Or.inr (by decide)⟩
      · dsimp only [wpX_standing]
        refine ex_isProj1 hj (br_f (by decide) ⟨vp_in_nI (by omega) (by decide), ?_⟩)
        rw [nI_clamp (by omega)]
        exact br_t z hp
      · dsimp only [wpY_without]
        refine ey_outF 3 j rfl (by decide) hj (br_t rfl ⟨vp_in_nI (by omega) (by decide), ?_⟩)
        rw [nI_clamp (by omega)]
        exact br_t z hp
    · refine ⟨0, fun post hp => ?_, fun post hp => ?_, Or.inl ⟨rfl, j, hj, rfl, z⟩⟩
      · dsimp only [wpX_standing]
        refine ex_isProj1 hj (br_f (by decide) ⟨vp_in_nI (by omega) (by decide), ?_⟩)
        rw [nI_clamp (by omega)]
        exact br_f z hp
      · dsimp only [wpY_without]
        refine ey_outF 3 j rfl (by decide) hj (br_t rfl ⟨vp_in_nI (by omega) (by decide), ?_⟩)
        rw [nI_clamp (by omega)]
        exact br_f z hp
theorem es_OK_0 {op wi : Nat → Int32} : es_OK 0 op wi := ⟨fun _ => 0, rfl, fun i h hi => absurd hi (Nat.not_lt_zero _)⟩
theorem es_pos {n : Nat} (h : ¬ nI n = 0) : 0 < n := by
  rcases Nat.eq_zero_or_pos n with e | e
  · rw [e] at h; exact absurd rfl h
  · exact e
theorem i_vc_position {k : Nat} {u : SX} {v : SY} (I : i_Rel k u v) (hk : k + 4 ≤ 2048) (v1 : Int32) : wpX_position (fun r => wpY_position (fun r' => r' = r ∧ i_Rel (k + 4) u v) v v1) u v1 := by
  obtain ⟨x_records, x_removedCount, x_flushed, x_drafted, x_height, x_time, x_foundAt, x_recordStream, x_recordType, x_recordVersion, x_recordValue, x_originProjection, x_originPosition, x_originInstruction, x_joined, x_removed, x_eventCount, x_cutLevel, x_draftType, x_draftValue, x_ops, x_arguments, x_programLength, x_states, x_noted, x_stack, x_metHeight, x_groupType, x_cursor, x_keptCursor, x_parked, x_rowCount, x_rowPosition, x_rowTimes, x_rowDue⟩ := u
  obtain ⟨y_count, y_flushed, y_calls, y_drafted, y_top, y_time, y_isCut, y_removed, y_stream, y_type, y_from, y_by, y_value, y_version, y_on, y_call, y_draftType, y_draftValue, y_op, y_with, y_length, y_height, y_torn, y_stack, y_position, y_cells, y_noted, y_wanted, y_formed, y_cursor, y_parked, y_where, y_often, y_due, y_many, y_found⟩ := v
  have J := i_up I
  obtain ⟨q, hq, c, f, d, L, hL, hD, hP, hS, hG, hF⟩ := I
  obtain ⟨rfl, hlen, hop, ho3, hok⟩ := hP
  obtain ⟨r, hX, hY, hr⟩ := em_stand v1
  dsimp only [wpX_position]
  refine hX _ ?_
  rcases hr with ⟨rfl, p, hp, rfl, hz⟩ | hr
  · refine br_t rfl (ex_stateBase (m := 0) ⟨?_, ?_⟩)
    · exact pk_in (11 * (3 * 0 + p) + 10) 99 (by omega) (nI_add _ 10)
    · dsimp only [wpY_position]
      refine hY _ (br_t rfl ⟨vp_in_nI (by omega) (by decide), ?_, J⟩)
      rw [(hlen p).1] at hz
      obtain ⟨⟨⟨a, ha, e1, e2⟩, _⟩, _⟩ := hS p hp (es_pos hz)
      rw [nI_clamp (by omega), pk_cl (11 * p + 10) (by rw [show 11 * (3 * 0 + p) = 11 * p by omega]; exact nI_add _ 10) (by omega), e1, e2]
  · refine br_f hr ?_
    dsimp only [wpY_position]
    exact hY _ (br_f hr ⟨rfl, J⟩)
theorem i_vc_cell {k : Nat} {u : SX} {v : SY} (I : i_Rel k u v) (hk : k + 4 ≤ 2048) (v1 : Int32) (v2 : Int32) (v3 : Int32) : wpX_cell (fun r => wpY_cell (fun r' => r' = r ∧ i_Rel (k + 4) u v) v v1 v2 v3) u v1 v2 v3 := by
  obtain ⟨x_records, x_removedCount, x_flushed, x_drafted, x_height, x_time, x_foundAt, x_recordStream, x_recordType, x_recordVersion, x_recordValue, x_originProjection, x_originPosition, x_originInstruction, x_joined, x_removed, x_eventCount, x_cutLevel, x_draftType, x_draftValue, x_ops, x_arguments, x_programLength, x_states, x_noted, x_stack, x_metHeight, x_groupType, x_cursor, x_keptCursor, x_parked, x_rowCount, x_rowPosition, x_rowTimes, x_rowDue⟩ := u
  obtain ⟨y_count, y_flushed, y_calls, y_drafted, y_top, y_time, y_isCut, y_removed, y_stream, y_type, y_from, y_by, y_value, y_version, y_on, y_call, y_draftType, y_draftValue, y_op, y_with, y_length, y_height, y_torn, y_stack, y_position, y_cells, y_noted, y_wanted, y_formed, y_cursor, y_parked, y_where, y_often, y_due, y_many, y_found⟩ := v
  have J := i_up I
  obtain ⟨q, hq, c, f, d, L, hL, hD, hP, hS, hG, hF⟩ := I
  obtain ⟨rfl, hlen, hop, ho3, hok⟩ := hP
  obtain ⟨r, hX, hY, hr⟩ := em_stand v1
  dsimp only [wpX_cell]
  refine hX _ ?_
  dsimp only [wpY_cell]
  rcases hr with ⟨rfl, p, hp, rfl, hz⟩ | hr
  · refine br_t rfl ?_
    rcases es_rg v2 5 (by decide) with h | ⟨s, hs, rfl⟩
    · exact ex_isStream0 h (br_t rfl (hY _ (br_t rfl (ey_outT 5 rfl h (br_f (by decide) ⟨rfl, J⟩)))))
    · refine ex_isStream1 hs (br_f (by decide) ?_)
      rcases es_rg v3 2 (by decide) with h | ⟨e, he, rfl⟩
      · by_cases z : v3 < 0
        · exact br_t z (hY _ (br_t rfl (ey_outF 5 s rfl (by decide) hs (br_t rfl (ey_outT 2 rfl h (br_f (by decide) ⟨rfl, J⟩))))))
        · exact br_f z (br_f (fun w => es_ltirr (es_ltle w (h.resolve_left z))) (hY _ (br_t rfl (ey_outF 5 s rfl (by decide) hs (br_t rfl (ey_outT 2 rfl h (br_f (by decide) ⟨rfl, J⟩)))))))
      · refine br_f (nI_pos (by omega)) (br_t (nI_lt (b := 2) he (by decide)) (ex_stateBase (m := 0) ?_))
        have ex : nI (11 * (3 * 0 + p)) + nI s * 2 + nI e = nI (11 * p + (2 * s + e)) := by
          rw [show (2 : Int32) = nI 2 from rfl, pk_mul, nI_add, nI_add]; congr 1; omega
        have ey : 10 * nI p + 2 * nI s + nI e = nI (10 * p + (2 * s + e)) := by
          rw [show (2 : Int32) = nI 2 from rfl, show (10 : Int32) = nI 10 from rfl, pk_mul, pk_mul, nI_add, nI_add]; congr 1; omega
        rw [ex]
        refine ⟨vp_in_nI (by omega) (by decide), hY _ (br_t rfl (ey_outF 5 s rfl (by decide) hs (br_t rfl (ey_outF 2 e rfl (by decide) he (br_t rfl ?_)))))⟩
        rw [ey]
        refine ⟨vp_in_nI (by omega) (by decide), ?_, J⟩
        rw [(hlen p).1] at hz
        obtain ⟨⟨_, hk⟩, _⟩ := hS p hp (es_pos hz)
        rw [nI_clamp (by omega), nI_clamp (by omega)]
        exact (hk (2 * s + e) (by omega)).symm
  · exact br_f hr (hY _ (br_f hr ⟨rfl, J⟩))
theorem es_St_L {L' : Nat → Nat} {st xn po ce yn : Nat → Int32} (H : es_St c f L st xn po ce yn) (h : ∀ p, p < 3 → L' p = L p) : es_St c f L' st xn po ce yn := by
  intro p hp hl
  rw [h p hp] at hl
  exact H p hp hl
theorem es_OK_L {op wi : Nat → Int32} {p : Nat} {L' : Nat → Nat} (H : es_OK (L p) op wi) (h : L' p = L p) : es_OK (L' p) op wi := by
  rw [h]; exact H
theorem i_vc_drop {k : Nat} {u : SX} {v : SY} (I : i_Rel k u v) (hk : k + 4 ≤ 2048) (v1 : Int32) : wpX_drop (fun r u' => wpY_drop (fun r' v' => r' = r ∧ i_Rel (k + 4) u' v') v v1) u v1 := by
  obtain ⟨x_records, x_removedCount, x_flushed, x_drafted, x_height, x_time, x_foundAt, x_recordStream, x_recordType, x_recordVersion, x_recordValue, x_originProjection, x_originPosition, x_originInstruction, x_joined, x_removed, x_eventCount, x_cutLevel, x_draftType, x_draftValue, x_ops, x_arguments, x_programLength, x_states, x_noted, x_stack, x_metHeight, x_groupType, x_cursor, x_keptCursor, x_parked, x_rowCount, x_rowPosition, x_rowTimes, x_rowDue⟩ := u
  obtain ⟨y_count, y_flushed, y_calls, y_drafted, y_top, y_time, y_isCut, y_removed, y_stream, y_type, y_from, y_by, y_value, y_version, y_on, y_call, y_draftType, y_draftValue, y_op, y_with, y_length, y_height, y_torn, y_stack, y_position, y_cells, y_noted, y_wanted, y_formed, y_cursor, y_parked, y_where, y_often, y_due, y_many, y_found⟩ := v
  have J := i_up I
  obtain ⟨q, hq, c, f, d, L, hL, hD, hP, hS, hG, hF⟩ := I
  obtain ⟨rfl, hlen, hop, ho3, hok⟩ := hP
  obtain ⟨r, hX, hY, hr⟩ := em_stand v1
  dsimp only [wpX_drop]
  refine hX _ ?_
  dsimp only [wpY_drop]
  rcases hr with ⟨rfl, p, hp, rfl, hz⟩ | hr
  · refine br_t rfl ⟨vp_in_nI (by omega) (by decide), nm_e ⟨vp_in_nI (by omega) (by decide), nm_e (hY _ (br_t rfl ⟨vp_in_nI (by omega) (by decide), nm_e ⟨rfl, ?_⟩⟩))⟩⟩
    rw [nI_clamp (by omega), es_nb_0, es_nb0]
    refine ⟨q, by omega, c, f, d, fun m => if m = p then 0 else L m, hL, hD, ⟨rfl, fun m => ?_, fun m i hm hi => ?_, fun i hi => ?_, fun m hm => ?_⟩, fun m hm hl => ?_, hG, hF⟩
    · by_cases e : m = p
      · rw [e, pk_us]; simp only [if_pos]; exact ⟨rfl, Nat.zero_le 14⟩
      · rw [pk_un e]; simp only [if_neg e]; exact hlen m
    · by_cases e : m = p
      · simp only [if_pos e] at hi; exact absurd hi (Nat.not_lt_zero _)
      · simp only [if_neg e] at hi; exact hop m i hm hi
    · simp only [if_neg (show ¬ 3 = p by omega)] at hi; exact ho3 i hi
    · by_cases e : m = p
      · simp only [if_pos e]; exact es_OK_0
      · simp only [if_neg e]; exact hok m hm
    · by_cases e : m = p
      · simp only [if_pos e] at hl; exact absurd hl (Nat.lt_irrefl 0)
      · simp only [if_neg e] at hl
        have h := hS m hm hl
        rw [pk_un e]
        exact h
  · exact br_f hr (hY _ (br_f hr ⟨rfl, J⟩))
theorem i_vc_code {k : Nat} {u : SX} {v : SY} (I : i_Rel k u v) (hk : k + 4 ≤ 2048) (v1 : Int32) (v2 : Int32) : wpX_code (fun r u' => wpY_code (fun r' v' => r' = r ∧ i_Rel (k + 4) u' v') v v1 v2) u v1 v2 := by
  obtain ⟨x_records, x_removedCount, x_flushed, x_drafted, x_height, x_time, x_foundAt, x_recordStream, x_recordType, x_recordVersion, x_recordValue, x_originProjection, x_originPosition, x_originInstruction, x_joined, x_removed, x_eventCount, x_cutLevel, x_draftType, x_draftValue, x_ops, x_arguments, x_programLength, x_states, x_noted, x_stack, x_metHeight, x_groupType, x_cursor, x_keptCursor, x_parked, x_rowCount, x_rowPosition, x_rowTimes, x_rowDue⟩ := u
  obtain ⟨y_count, y_flushed, y_calls, y_drafted, y_top, y_time, y_isCut, y_removed, y_stream, y_type, y_from, y_by, y_value, y_version, y_on, y_call, y_draftType, y_draftValue, y_op, y_with, y_length, y_height, y_torn, y_stack, y_position, y_cells, y_noted, y_wanted, y_formed, y_cursor, y_parked, y_where, y_often, y_due, y_many, y_found⟩ := v
  have J := i_up I
  obtain ⟨q, hq, c, f, d, L, hL, hD, hP, hS, hG, hF⟩ := I
  obtain ⟨rfl, hlen, hop, ho3, hok⟩ := hP
  have h3 := hlen 3
  dsimp only [wpX_code, wpY_code]
  refine nm_r h3.1 ?_
  rcases es_rg v1 14 (by decide) with h | ⟨o, ho, rfl⟩
  · have Y : ∀ (P : Int32 → Prop), P 1 → wpY_out P v1 14 := fun P hP => ey_outT 14 rfl h hP
    by_cases z : v1 < 0
    · exact br_t z (Y _ (br_f (by decide) ⟨rfl, J⟩))
    · exact br_f z (br_t (h.resolve_left z) (Y _ (br_f (by decide) ⟨rfl, J⟩)))
  · have hn := es_nar o (by omega)
    by_cases l14 : L 3 < 14
    · have hn2 := es_nar (L 3 + 1) (by omega)
      have e42 : 42 + nI (L 3) = nI (42 + L 3) := nI_add 42 (L 3)
      have v42 : vp_in (nI (42 + L 3)) 56 := vp_in_nI (by omega) (by decide)
      have c42 : (nI (42 + L 3)).toNatClampNeg = 42 + L 3 := nI_clamp (by omega)
      refine br_f (nI_pos (by omega)) (br_f (nI_ge (b := 14) ho (by decide)) (br_t (nI_lt (b := 14) l14 (by decide)) ?_))
      rw [e42, nI_1, c42]
      refine ⟨v42, nm_e ⟨v42, nm_e (nm_e (ey_outF 14 o rfl (by decide) ho (br_t rfl (br_f ?_ ?_))))⟩⟩
      · rw [h3.1]
        exact fun z => by have := es_inj (b := 14) z (by omega) (by decide); omega
      · rw [h3.1, e42, nI_1, c42, hn.2, hn.1, hn2.2, hn2.1]
        refine ⟨v42, nm_e (nm_e ⟨v42, nm_e ⟨rfl, ?_⟩⟩)⟩
        refine ⟨q, by omega, c, f, d, fun m => if m = 3 then L 3 + 1 else L m, hL, hD, ⟨rfl, fun m => ?_, fun m i hm hi => ?_, fun i hi => ?_, fun m hm => ?_⟩, es_St_L hS (fun p hp => if_neg (by omega)), hG, hF⟩
        · by_cases e : m = 3
          · rw [e, pk_us]; simp only [if_pos]; exact ⟨trivial, by omega⟩
          · rw [pk_un e]; simp only [if_neg e]; exact hlen m
        · have hm14 := (hlen m).2
          by_cases e : 14 * m + i = 42 + L 3
          · rw [e, pk_us, pk_us, pk_us, pk_us]; exact ⟨rfl, rfl⟩
          · rw [pk_un e, pk_un e, pk_un e, pk_un e]
            refine hop m i hm ?_
            by_cases e3 : m = 3
            · subst e3; simp only [if_pos] at hi; omega
            · simp only [if_neg e3] at hi; exact hi
        · simp only [if_pos] at hi
          by_cases e : i = L 3
          · rw [e, pk_us]; exact ⟨o, ho, rfl⟩
          · rw [pk_un (by omega)]; exact ho3 i (by omega)
        · have hm14 := (hlen m).2
          simp only [if_neg (show ¬ m = 3 by omega)]
          exact es_OK_c (hok m hm) (fun i hi => ⟨pk_un (by omega), pk_un (by omega)⟩)
    · have e14 : L 3 = 14 := by omega
      refine br_f (nI_pos (by omega)) (br_f (nI_ge (b := 14) ho (by decide)) (br_f ?_ (ey_outF 14 o rfl (by decide) ho (br_t rfl (br_t ?_ ⟨rfl, J⟩)))))
      · rw [e14]; decide
      · rw [h3.1, e14]; rfl
theorem i_vc_found {k : Nat} {u : SX} {v : SY} (I : i_Rel k u v) (hk : k + 4 ≤ 2048) (v1 : Int32) : wpX_found (fun r => wpY_found (fun r' => r' = r ∧ i_Rel (k + 4) u v) v v1) u v1 := by
  obtain ⟨x_records, x_removedCount, x_flushed, x_drafted, x_height, x_time, x_foundAt, x_recordStream, x_recordType, x_recordVersion, x_recordValue, x_originProjection, x_originPosition, x_originInstruction, x_joined, x_removed, x_eventCount, x_cutLevel, x_draftType, x_draftValue, x_ops, x_arguments, x_programLength, x_states, x_noted, x_stack, x_metHeight, x_groupType, x_cursor, x_keptCursor, x_parked, x_rowCount, x_rowPosition, x_rowTimes, x_rowDue⟩ := u
  obtain ⟨y_count, y_flushed, y_calls, y_drafted, y_top, y_time, y_isCut, y_removed, y_stream, y_type, y_from, y_by, y_value, y_version, y_on, y_call, y_draftType, y_draftValue, y_op, y_with, y_length, y_height, y_torn, y_stack, y_position, y_cells, y_noted, y_wanted, y_formed, y_cursor, y_parked, y_where, y_often, y_due, y_many, y_found⟩ := v
  have J := i_up I
  obtain ⟨q, hq, c, f, d, L, hL, hD, hP, hS, hG, hF⟩ := I
  have hLL := hL
  obtain ⟨rfl, rfl, rfl, rfl, rfl, rfl, rfl, rfl, rfl, rfl, rfl, rfl, rfl, hl⟩ := hL
  have hc := hl.1.1
  dsimp only [wpX_found, wpY_found]
  rcases hF with ⟨rfl, h0⟩ | ⟨a, ha, rfl, hcut, f0, f1, f2, f3, f4, f5⟩
  · refine br_t (by decide) ?_
    rcases es_rg v1 6 (by decide) with h | ⟨w, hw, rfl⟩
    · exact ey_outT 6 rfl h (br_f (by decide) ⟨rfl, J⟩)
    · refine ey_outF 6 w rfl (by decide) hw (br_t rfl ⟨vp_in_nI hw (by decide), ?_, J⟩)
      rw [nI_clamp (by omega)]; exact h0 w hw
  · refine br_f (nI_pos (by omega)) (br_t (nI_lt ha (by omega)) ?_)
    have va : vp_in (nI a) 2000 := vp_in_nI (by omega) (by decide)
    have ca : (nI a).toNatClampNeg = a := nI_clamp (by omega)
    rw [ca, es_V0 hcut, es_T0 hcut, es_W0 hcut]
    rcases es_rg v1 6 (by decide) with h | ⟨w, hw, rfl⟩
    · by_cases z : v1 < 0
      · exact br_t z (ey_outT 6 rfl h (br_f (by decide) ⟨rfl, J⟩))
      · exact br_f z (br_t (es_ltle (show (5 : Int32) < nI 6 by decide) (h.resolve_left z)) (ey_outT 6 rfl h (br_f (by decide) ⟨rfl, J⟩)))
    · refine br_f (nI_pos (by omega)) (br_f (nI_nlt (a := 5) (by omega) (by decide)) ?_)
      have Y : ∀ x, y_found w = x → wpY_out (fun r_1 => (r_1 = 0 → vp_in (nI w) 6 ∧ y_found (nI w).toNatClampNeg = x ∧ i_Rel (k + 4) (nI c, nI (es_rc y_removed c), nI f, x_drafted, x_height, x_time, nI a, y_stream, es_T y_isCut y_type, es_V y_isCut y_version y_value, es_W y_isCut y_value, y_from, y_on, x_originInstruction, x_joined, y_removed, x_eventCount, x_cutLevel, x_draftType, x_draftValue, x_ops, x_arguments, x_programLength, x_states, x_noted, x_stack, x_metHeight, x_groupType, x_cursor, x_keptCursor, x_parked, x_rowCount, x_rowPosition, x_rowTimes, x_rowDue) (nI c, nI f, nI q, y_drafted, y_top, y_time, y_isCut, y_removed, y_stream, y_type, y_from, y_by, y_value, y_version, y_on, y_call, y_draftType, y_draftValue, y_op, y_with, y_length, y_height, y_torn, y_stack, y_position, y_cells, y_noted, y_wanted, y_formed, y_cursor, y_parked, y_where, y_often, y_due, y_many, y_found)) ∧ (¬ r_1 = 0 → 0 = x ∧ i_Rel (k + 4) (nI c, nI (es_rc y_removed c), nI f, x_drafted, x_height, x_time, nI a, y_stream, es_T y_isCut y_type, es_V y_isCut y_version y_value, es_W y_isCut y_value, y_from, y_on, x_originInstruction, x_joined, y_removed, x_eventCount, x_cutLevel, x_draftType, x_draftValue, x_ops, x_arguments, x_programLength, x_states, x_noted, x_stack, x_metHeight, x_groupType, x_cursor, x_keptCursor, x_parked, x_rowCount, x_rowPosition, x_rowTimes, x_rowDue) (nI c, nI f, nI q, y_drafted, y_top, y_time, y_isCut, y_removed, y_stream, y_type, y_from, y_by, y_value, y_version, y_on, y_call, y_draftType, y_draftValue, y_op, y_with, y_length, y_height, y_torn, y_stack, y_position, y_cells, y_noted, y_wanted, y_formed, y_cursor, y_parked, y_where, y_often, y_due, y_many, y_found))) (nI w) 6 := by
        intro x hx
        refine ey_outF 6 w rfl (by decide) hw (br_t rfl ⟨vp_in_nI hw (by decide), ?_, J⟩)
        rw [nI_clamp (by omega)]; exact hx
      have hcases : w = 0 ∨ w = 1 ∨ w = 2 ∨ w = 3 ∨ w = 4 ∨ w = 5 := by omega
      rcases hcases with e | e | e | e | e | e <;> subst e
      · exact br_t rfl ⟨va, Y _ f0⟩
      · exact br_f (by decide) (br_t rfl ⟨va, Y _ f1⟩)
      · exact br_f (by decide) (br_f (by decide) (br_t rfl ⟨va, Y _ f2⟩))
      · exact br_f (by decide) (br_f (by decide) (br_f (by decide) (br_t rfl ⟨va, Y _ f3⟩)))
      · exact br_f (by decide) (br_f (by decide) (br_f (by decide) (br_f (by decide) (br_t rfl ⟨va, Y _ f4⟩))))
      · exact br_f (by decide) (br_f (by decide) (br_f (by decide) (br_f (by decide) (br_f (by decide) (br_t rfl ⟨va, Y _ f5⟩)))))
theorem ex_formed0 {g : Int32} (h : g < 0 ∨ nI 2 ≤ g) (hp : post 0) : wpX_isFormed post (x_records, x_removedCount, x_flushed, x_drafted, x_height, x_time, x_foundAt, x_recordStream, x_recordType, x_recordVersion, x_recordValue, x_originProjection, x_originPosition, x_originInstruction, x_joined, x_removed, x_eventCount, x_cutLevel, x_draftType, x_draftValue, x_ops, x_arguments, x_programLength, x_states, x_noted, x_stack, x_metHeight, x_groupType, x_cursor, x_keptCursor, x_parked, x_rowCount, x_rowPosition, x_rowTimes, x_rowDue) g := by
  by_cases z : g < 0
  · exact br_t z hp
  · exact br_f z (br_t (h.resolve_left z) hp)
theorem ex_formed1 {g : Nat} (hg : g < 2) (h0 : x_groupType g = -1 → post 0) (h1 : ¬ x_groupType g = -1 → post 1) : wpX_isFormed post (x_records, x_removedCount, x_flushed, x_drafted, x_height, x_time, x_foundAt, x_recordStream, x_recordType, x_recordVersion, x_recordValue, x_originProjection, x_originPosition, x_originInstruction, x_joined, x_removed, x_eventCount, x_cutLevel, x_draftType, x_draftValue, x_ops, x_arguments, x_programLength, x_states, x_noted, x_stack, x_metHeight, x_groupType, x_cursor, x_keptCursor, x_parked, x_rowCount, x_rowPosition, x_rowTimes, x_rowDue) (nI g) := by
  refine br_f (nI_pos (by omega)) (br_f (nI_ge hg (by decide)) ⟨vp_in_nI hg (by decide), ?_⟩)
  rw [nI_clamp (by omega)]
  exact br_c h0 h1
theorem es_Frm_f {g : Nat} {gt fo wa : Nat → Int32} (H : es_Frm g gt fo wa) : gt g = -1 ↔ fo g = 0 := by
  rcases H with ⟨h1, h2⟩ | ⟨h1, t, ht, h2, h3⟩
  · exact ⟨fun _ => h1, fun _ => h2⟩
  · exact ⟨fun z => absurd (h2.symm.trans z) (es_nm1 (by omega)), fun z => absurd z h1⟩
theorem i_vc_group {k : Nat} {u : SX} {v : SY} (I : i_Rel k u v) (hk : k + 4 ≤ 2048) (v1 : Int32) (v2 : Int32) : wpX_group (fun r => wpY_group (fun r' => r' = r ∧ i_Rel (k + 4) u v) v v1 v2) u v1 v2 := by
  obtain ⟨x_records, x_removedCount, x_flushed, x_drafted, x_height, x_time, x_foundAt, x_recordStream, x_recordType, x_recordVersion, x_recordValue, x_originProjection, x_originPosition, x_originInstruction, x_joined, x_removed, x_eventCount, x_cutLevel, x_draftType, x_draftValue, x_ops, x_arguments, x_programLength, x_states, x_noted, x_stack, x_metHeight, x_groupType, x_cursor, x_keptCursor, x_parked, x_rowCount, x_rowPosition, x_rowTimes, x_rowDue⟩ := u
  obtain ⟨y_count, y_flushed, y_calls, y_drafted, y_top, y_time, y_isCut, y_removed, y_stream, y_type, y_from, y_by, y_value, y_version, y_on, y_call, y_draftType, y_draftValue, y_op, y_with, y_length, y_height, y_torn, y_stack, y_position, y_cells, y_noted, y_wanted, y_formed, y_cursor, y_parked, y_where, y_often, y_due, y_many, y_found⟩ := v
  have J := i_up I
  obtain ⟨q, hq, c, f, d, L, hL, hD, hP, hS, hG, hF⟩ := I
  have hG2 := hG
  obtain ⟨rfl, rfl, hg2⟩ := hG2
  dsimp only [wpX_group, wpY_group]
  rcases es_rg v1 2 (by decide) with h | ⟨g, hg, rfl⟩
  · exact ex_formed0 h (br_t rfl (ey_outT 2 rfl h (br_f (by decide) ⟨rfl, J⟩)))
  · obtain ⟨hfm, nt, nw, nk, u, l, hz, hgr⟩ := hg2 g hg
    have hff := es_Frm_f hfm
    have cg : (nI g).toNatClampNeg = g := nI_clamp (by omega)
    have vg2 : vp_in (nI g) 2 := vp_in_nI hg (by decide)
    have vg4 : vp_in (nI g) 4 := vp_in_nI (by omega) (by decide)
    have vg6 : vp_in (nI g) 6 := vp_in_nI (by omega) (by decide)
    refine ex_formed1 hg (fun z => br_t rfl (ey_outF 2 g rfl (by decide) hg (br_t rfl ⟨vg2, br_t (by rw [cg]; exact hff.mp z) ⟨rfl, J⟩⟩))) (fun z => br_f (by decide) ?_)
    have zf : ¬ y_formed (nI g).toNatClampNeg = 0 := by rw [cg]; exact fun w => z (hff.mpr w)
    have Y0 : ∀ P : Int32 → Prop, wpY_out P v2 4 → True := fun _ _ => trivial
    rcases es_rg v2 4 (by decide) with h | ⟨w, hw, rfl⟩
    · by_cases y : v2 < 0
      · exact br_t y (ey_outF 2 g rfl (by decide) hg (br_t rfl ⟨vg2, br_f zf (ey_outT 4 rfl h (br_f (by decide) ⟨rfl, J⟩))⟩))
      · exact br_f y (br_t (es_ltle (show (3 : Int32) < nI 4 by decide) (h.resolve_left y)) (ey_outF 2 g rfl (by decide) hg (br_t rfl ⟨vg2, br_f zf (ey_outT 4 rfl h (br_f (by decide) ⟨rfl, J⟩))⟩)))
    · obtain ⟨a0, a1, a2, a3⟩ := hgr
      refine br_f (nI_pos (by omega)) (br_f (nI_nlt (a := 3) (by omega) (by decide)) ?_)
      have c3 : (nI g * 3 + 0).toNatClampNeg = 3 * g := by rw [es_g3, nI_clamp (by omega)]
      have c31 : (nI g * 3 + 1).toNatClampNeg = 3 * g + 1 := by rw [es_g31, nI_clamp (by omega)]
      have v3 : vp_in (nI g * 3 + 0) 6 := by rw [es_g3]; exact vp_in_nI (by omega) (by decide)
      have v31 : vp_in (nI g * 3 + 1) 6 := by rw [es_g31]; exact vp_in_nI (by omega) (by decide)
      have c2 : (2 + nI g).toNatClampNeg = 2 + g := by rw [es_2g, nI_clamp (by omega)]
      have v2 : vp_in (2 + nI g) 6 := by rw [es_2g]; exact vp_in_nI (by omega) (by decide)
      rw [cg] at zf
      rw [cg, c3, c31, c2]
      have hcases : w = 0 ∨ w = 1 ∨ w = 2 ∨ w = 3 := by omega
      rcases hcases with e | e | e | e <;> subst e
      · exact br_t rfl ⟨vg2, ey_outF 2 g rfl (by decide) hg (br_t rfl ⟨vg2, br_f zf (ey_outF 4 0 rfl (by decide) hw (br_t rfl (br_t rfl ⟨vg4, a1.2.1.trans a1.1.symm, J⟩)))⟩)⟩
      · exact br_f (by decide) (br_t rfl ⟨v3, ey_outF 2 g rfl (by decide) hg (br_t rfl ⟨vg2, br_f zf (ey_outF 4 1 rfl (by decide) hw (br_t rfl (br_f (by decide) (br_t rfl ⟨vg6, a2.2.1.trans a2.1.symm, J⟩))))⟩)⟩)
      · exact br_f (by decide) (br_f (by decide) (br_t rfl ⟨v31, ey_outF 2 g rfl (by decide) hg (br_t rfl ⟨vg2, br_f zf (ey_outF 4 2 rfl (by decide) hw (br_t rfl (br_f (by decide) (br_f (by decide) (br_t rfl ⟨v2, a2.2.2.2.1.trans a2.2.2.1.symm, J⟩)))))⟩)⟩))
      · exact br_f (by decide) (br_f (by decide) (br_f (by decide) (br_t rfl ⟨vg2, ey_outF 2 g rfl (by decide) hg (br_t rfl ⟨vg2, br_f zf (ey_outF 4 3 rfl (by decide) hw (br_t rfl (br_f (by decide) (br_f (by decide) (br_f (by decide) ⟨vg2, rfl, J⟩)))))⟩)⟩)))
end
