section
variable {x_records x_removedCount x_flushed x_drafted x_height x_time x_foundAt : Int32} {x_recordStream x_recordType x_recordVersion x_recordValue x_originProjection x_originPosition x_originInstruction x_joined x_removed x_eventCount x_cutLevel x_draftType x_draftValue x_ops x_arguments x_programLength x_states x_noted x_stack x_metHeight x_groupType x_cursor x_keptCursor x_parked x_rowCount x_rowPosition x_rowTimes x_rowDue : Nat → Int32} {y_count y_flushed y_calls y_drafted y_top y_time : Int32} {y_isCut y_removed y_stream y_type y_from y_by y_value y_version y_on y_call y_draftType y_draftValue y_op y_with y_length y_height y_torn y_stack y_position y_cells y_noted y_wanted y_formed y_cursor y_parked y_where y_often y_due y_many y_found : Nat → Int32} {c f q : Nat} {cut rm str ty fr byi val ver onn call oi jn ec cl : Nat → Int32} {d : Nat} {L : Nat → Nat}
/-- NOTED states become KEPT ones, as far as p -/
def es_FX (st0 xn0 : Nat → Int32) (m : Nat) (st xn : Nat → Int32) : Prop :=
  (∀ p, p < m → xn p = 0 ∧ ∀ k, k < 11 → st (11 * (3 + p) + k) = if xn0 p = 0 then st0 (11 * (3 + p) + k) else st0 (11 * (6 + p) + k)) ∧
  (∀ p, m ≤ p → xn p = xn0 p) ∧ (∀ j, (j < 33 ∨ 33 + 11 * m ≤ j) → st j = st0 j)
def es_FY (po0 ce0 yn0 : Nat → Int32) (m : Nat) (po ce : Nat → Int32) : Prop :=
  (∀ p, p < m → po (3 + p) = (if yn0 p = 0 then po0 (3 + p) else po0 (6 + p)) ∧ ∀ k, k < 10 → ce (10 * (3 + p) + k) = if yn0 p = 0 then ce0 (10 * (3 + p) + k) else ce0 (10 * (6 + p) + k)) ∧
  (∀ r, (r < 3 ∨ 3 + m ≤ r) → po r = po0 r) ∧ (∀ j, (j < 30 ∨ 30 + 10 * m ≤ j) → ce j = ce0 j)
def es_fpo (po0 yn0 : Nat → Int32) : Nat → Int32 := fun r => if 3 ≤ r ∧ r < 6 ∧ ¬ yn0 (r - 3) = 0 then po0 (r + 3) else po0 r
def es_fce (ce0 yn0 : Nat → Int32) : Nat → Int32 := fun j => if 30 ≤ j ∧ j < 60 ∧ ¬ yn0 ((j - 30) / 10) = 0 then ce0 (j + 30) else ce0 j
def es_fyn (yn0 : Nat → Int32) : Nat → Int32 := fun p => if p < 3 then 0 else yn0 p
theorem es_FY_x (po0 ce0 yn0 : Nat → Int32) : es_FY po0 ce0 yn0 3 (es_fpo po0 yn0) (es_fce ce0 yn0) := by
  refine ⟨fun p hp => ⟨?_, fun k hk => ?_⟩, fun r hr => ?_, fun j hj => ?_⟩
  · unfold es_fpo
    rw [show 3 + p - 3 = p by omega]
    by_cases z : yn0 p = 0
    · rw [if_neg (fun w => w.2.2 z), if_pos z]
    · rw [if_pos ⟨by omega, by omega, z⟩, if_neg z, show 3 + p + 3 = 6 + p by omega]
  · unfold es_fce
    rw [show (10 * (3 + p) + k - 30) / 10 = p by omega]
    by_cases z : yn0 p = 0
    · rw [if_neg (fun w => w.2.2 z), if_pos z]
    · rw [if_pos ⟨by omega, by omega, z⟩, if_neg z, show 10 * (3 + p) + k + 30 = 10 * (6 + p) + k by omega]
  · unfold es_fpo
    rw [if_neg (by omega)]
  · unfold es_fce
    rw [if_neg (by omega)]
theorem es_FY_u {po0 ce0 yn0 po ce : Nat → Int32} (h : es_FY po0 ce0 yn0 3 po ce) : po = es_fpo po0 yn0 ∧ ce = es_fce ce0 yn0 := by
  obtain ⟨h1, h2, h3⟩ := h
  obtain ⟨g1, g2, g3⟩ := es_FY_x po0 ce0 yn0
  constructor
  · funext r
    by_cases z : r < 3 ∨ 6 ≤ r
    · rw [h2 r (by omega), g2 r (by omega)]
    · obtain ⟨p, rfl⟩ : ∃ p, r = 3 + p := ⟨r - 3, by omega⟩
      rw [(h1 p (by omega)).1, (g1 p (by omega)).1]
  · funext j
    by_cases z : j < 30 ∨ 60 ≤ j
    · rw [h3 j (by omega), g3 j (by omega)]
    · obtain ⟨p, k, hp, hk, rfl⟩ : ∃ p k, p < 3 ∧ k < 10 ∧ j = 10 * (3 + p) + k := ⟨(j - 30) / 10, (j - 30) % 10, by omega, by omega, by omega⟩
      rw [(h1 p hp).2 k hk, (g1 p hp).2 k hk]
theorem ex_fl {post : Int32 → SX → Prop} {x1 : Int32} (hp : ∀ st xn, es_FX x_states x_noted 3 st xn → ∃ n, wX_flush_56 post x1 n 0 x_records x_removedCount x_flushed x_drafted x_height x_time x_foundAt x_recordStream x_recordType x_recordVersion x_recordValue x_originProjection x_originPosition x_originInstruction x_joined x_removed x_eventCount x_cutLevel x_draftType x_draftValue x_ops x_arguments x_programLength st xn x_stack x_metHeight x_groupType x_cursor x_keptCursor x_parked x_rowCount x_rowPosition x_rowTimes x_rowDue) : ∃ n, wX_flush_20 post x1 n 0 x_records x_removedCount x_flushed x_drafted x_height x_time x_foundAt x_recordStream x_recordType x_recordVersion x_recordValue x_originProjection x_originPosition x_originInstruction x_joined x_removed x_eventCount x_cutLevel x_draftType x_draftValue x_ops x_arguments x_programLength x_states x_noted x_stack x_metHeight x_groupType x_cursor x_keptCursor x_parked x_rowCount x_rowPosition x_rowTimes x_rowDue := by
  refine loop_0 (fun n i (s : (Nat → Int32) × (Nat → Int32)) => wX_flush_20 post x1 n (nI i) x_records x_removedCount x_flushed x_drafted x_height x_time x_foundAt x_recordStream x_recordType x_recordVersion x_recordValue x_originProjection x_originPosition x_originInstruction x_joined x_removed x_eventCount x_cutLevel x_draftType x_draftValue x_ops x_arguments x_programLength s.1 s.2 x_stack x_metHeight x_groupType x_cursor x_keptCursor x_parked x_rowCount x_rowPosition x_rowTimes x_rowDue) (fun i s => es_FX x_states x_noted i s.1 s.2) 3 (x_states, x_noted) ⟨fun p h => absurd h (Nat.not_lt_zero _), fun p _ => rfl, fun j _ => rfl⟩ ?_ ?_
  · intro n s hs
    exact br_t (by decide) (hp _ _ hs)
  · intro n i s hi hs ih
    obtain ⟨st, xn⟩ := s
    obtain ⟨h1, h2, h3⟩ := hs
    refine br_f (nI_ge (b := 3) hi (by decide)) ⟨vp_in_nI hi (by decide), ?_⟩
    rw [nI_clamp (by omega)]
    refine br_c (fun z => nm_r (nI_1 _) (ih (st, xn) ⟨fun p hp => ?_, fun p hp => h2 p (by omega), fun j hj => h3 j (by omega)⟩)) (fun z => ?_)
    · by_cases e : p = i
      · subst e
        have z' : xn p = 0 := z
        refine ⟨z', fun k hk => ?_⟩
        rw [← h2 p (Nat.le_refl p), if_pos z']
        exact h3 _ (by omega)
      · exact h1 p (by omega)
    · have z' : ¬ xn i = 0 := z
      refine ex_copyState (m1 := 2) (m2 := 1) (r1 := 6 + i) (r2 := 3 + i) (by omega) (by omega) hi (by omega) (by omega) (by omega) ⟨vp_in_nI hi (by decide), nm_r (e' := upd xn i 0) (by rw [es_nb0]) (nm_r (nI_1 _) (ih (es_cpy st (11 * (3 + i)) (11 * (6 + i)) 11, upd xn i 0) ⟨fun p hp => ?_, fun p hp => ?_, fun j hj => ?_⟩))⟩
      · by_cases e : p = i
        · subst e
          refine ⟨pk_us, fun k hk => ?_⟩
          rw [← h2 p (Nat.le_refl p), if_neg z']
          show es_cpy st (11 * (3 + p)) (11 * (6 + p)) 11 (11 * (3 + p) + k) = _
          rw [es_cpy_i hk]
          exact h3 _ (by omega)
        · obtain ⟨a, b⟩ := h1 p (by omega)
          refine ⟨(pk_un e).trans a, fun k hk => ?_⟩
          show es_cpy st (11 * (3 + i)) (11 * (6 + i)) 11 (11 * (3 + p) + k) = _
          rw [es_cpy_o (by omega)]
          exact b k hk
      · exact (pk_un (by omega)).trans (h2 p (by omega))
      · show es_cpy st (11 * (3 + i)) (11 * (6 + i)) 11 j = _
        rw [es_cpy_o (by omega)]
        exact h3 j (by omega)
theorem ey_fl53 {post : Int32 → SY → Prop} {x1 : Int32} (hp : ∃ n, wY_flush_73 post x1 n 0 y_count y_flushed y_calls y_drafted y_top y_time y_isCut y_removed y_stream y_type y_from y_by y_value y_version y_on y_call y_draftType y_draftValue y_op y_with y_length y_height y_torn y_stack y_position y_cells (es_fyn y_noted) y_wanted y_formed y_cursor y_parked y_where y_often y_due y_many y_found) : ∃ n, wY_flush_53 post x1 y_count y_flushed y_calls y_drafted y_top y_time n 0 y_isCut y_removed y_stream y_type y_from y_by y_value y_version y_on y_call y_draftType y_draftValue y_op y_with y_length y_height y_torn y_stack y_position y_cells y_noted y_wanted y_formed y_cursor y_parked y_where y_often y_due y_many y_found := by
  refine loop_0 (fun n i s => wY_flush_53 post x1 y_count y_flushed y_calls y_drafted y_top y_time n (nI i) y_isCut y_removed y_stream y_type y_from y_by y_value y_version y_on y_call y_draftType y_draftValue y_op y_with y_length y_height y_torn y_stack y_position y_cells s y_wanted y_formed y_cursor y_parked y_where y_often y_due y_many y_found) (fun i s => (∀ p, p < i → s p = 0) ∧ ∀ p, i ≤ p → s p = y_noted p) 3 y_noted ⟨fun p h => absurd h (Nat.not_lt_zero _), fun p _ => rfl⟩ ?_ ?_
  · intro n s hs
    have e : s = es_fyn y_noted := by
      funext p
      unfold es_fyn
      by_cases z : p < 3
      · rw [if_pos z]; exact hs.1 p z
      · rw [if_neg z]; exact hs.2 p (by omega)
    subst e
    exact br_t (by decide) hp
  · intro n i s hi hs ih
    refine br_f (nI_ge (b := 3) hi (by decide)) ⟨vp_in_nI hi (by decide), nm_r (e' := upd s i 0) (by rw [nI_clamp (by omega), es_nb0]) (nm_r (nI_1 _) (ih _ ⟨fun p hp => ?_, fun p hp => (pk_un (by omega)).trans (hs.2 p (by omega))⟩))⟩
    by_cases e : p = i
    · rw [e, pk_us]
    · rw [pk_un e]; exact hs.1 p (by omega)
theorem ey_fl {post : Int32 → SY → Prop} {x1 : Int32} (hp : ∃ n, wY_flush_73 post x1 n 0 y_count y_flushed y_calls y_drafted y_top y_time y_isCut y_removed y_stream y_type y_from y_by y_value y_version y_on y_call y_draftType y_draftValue y_op y_with y_length y_height y_torn y_stack (es_fpo y_position y_noted) (es_fce y_cells y_noted) (es_fyn y_noted) y_wanted y_formed y_cursor y_parked y_where y_often y_due y_many y_found) : ∃ n, wY_flush_20 post x1 n 0 y_count y_flushed y_calls y_drafted y_top y_time y_isCut y_removed y_stream y_type y_from y_by y_value y_version y_on y_call y_draftType y_draftValue y_op y_with y_length y_height y_torn y_stack y_position y_cells y_noted y_wanted y_formed y_cursor y_parked y_where y_often y_due y_many y_found := by
  refine loop_0 (fun n i (s : (Nat → Int32) × (Nat → Int32)) => wY_flush_20 post x1 n (nI i) y_count y_flushed y_calls y_drafted y_top y_time y_isCut y_removed y_stream y_type y_from y_by y_value y_version y_on y_call y_draftType y_draftValue y_op y_with y_length y_height y_torn y_stack s.1 s.2 y_noted y_wanted y_formed y_cursor y_parked y_where y_often y_due y_many y_found) (fun i s => es_FY y_position y_cells y_noted i s.1 s.2) 3 (y_position, y_cells) ⟨fun p h => absurd h (Nat.not_lt_zero _), fun p _ => rfl, fun j _ => rfl⟩ ?_ ?_
  · intro n s hs
    obtain ⟨po, ce⟩ := s
    obtain ⟨e1, e2⟩ := es_FY_u hs
    have e1 : po = es_fpo y_position y_noted := e1
    have e2 : ce = es_fce y_cells y_noted := e2
    subst e1 e2
    exact br_t (by decide) (ey_fl53 hp)
  · intro n i s hi hs ih
    obtain ⟨po, ce⟩ := s
    obtain ⟨h1, h2, h3⟩ := hs
    have e6 : 6 + nI i = nI (6 + i) := nI_add 6 i
    have e3 : 3 + nI i = nI (3 + i) := nI_add 3 i
    refine br_f (nI_ge (b := 3) hi (by decide)) ⟨vp_in_nI hi (by decide), ?_⟩
    rw [nI_clamp (by omega), e6, e3]
    refine br_c (fun z => nm_r (nI_1 _) (ih (po, ce) ⟨fun p hp => ?_, fun p hp => h2 p (by omega), fun j hj => h3 j (by omega)⟩)) (fun z => ?_)
    · by_cases e : p = i
      · subst e
        rw [if_pos z]
        refine ⟨h2 _ (by omega), fun k hk => ?_⟩
        rw [if_pos z]
        exact h3 _ (by omega)
      · exact h1 p (by omega)
    · refine ey_copyState (by omega) (by omega) (by omega) (nm_r (nI_1 _) (ih (upd po (3 + i) (po (6 + i)), es_cpy ce (10 * (3 + i)) (10 * (6 + i)) 10) ⟨fun p hp => ?_, fun r hr => ?_, fun j hj => ?_⟩))
      · by_cases e : p = i
        · subst e
          refine ⟨?_, fun k hk => ?_⟩
          · rw [if_neg z]
            exact pk_us.trans (h2 _ (by omega))
          · rw [if_neg z]
            show es_cpy ce (10 * (3 + p)) (10 * (6 + p)) 10 (10 * (3 + p) + k) = _
            rw [es_cpy_i hk]
            exact h3 _ (by omega)
        · obtain ⟨a, b⟩ := h1 p (by omega)
          refine ⟨(pk_un (by omega)).trans a, fun k hk => ?_⟩
          show es_cpy ce (10 * (3 + i)) (10 * (6 + i)) 10 (10 * (3 + p) + k) = _
          rw [es_cpy_o (by omega)]
          exact b k hk
      · exact (pk_un (by omega)).trans (h2 r (by omega))
      · show es_cpy ce (10 * (3 + i)) (10 * (6 + i)) 10 j = _
        rw [es_cpy_o (by omega)]
        exact h3 j (by omega)
theorem es_St_fl {st0 xn0 po0 ce0 yn0 st xn po ce yn : Nat → Int32} (H : es_St c f L st0 xn0 po0 ce0 yn0) (hf : f ≤ c) (hx : es_FX st0 xn0 3 st xn) (hy : es_FY po0 ce0 yn0 3 po ce) (hyn : ∀ p, p < 3 → yn p = 0) : es_St c c L st xn po ce yn := by
  intro p hp hl
  obtain ⟨a1, a2, a3, a4⟩ := H p hp hl
  obtain ⟨x1, x2, x3⟩ := hx
  obtain ⟨y1, y2, y3⟩ := hy
  obtain ⟨b1, b2⟩ := x1 p hp
  obtain ⟨c1, c2⟩ := y1 p hp
  refine ⟨es_Eq_c a1 (fun k hk => x3 _ (by omega)) (y2 _ (by omega)) (fun k hk => y3 _ (by omega)), ?_, ?_, fun z => absurd b1 z⟩
  · by_cases z : xn0 p = 0
    · have z' : yn0 p = 0 := a3.mp z
      refine es_Eq_c (es_Eq_m a2 hf) (fun k hk => ?_) ?_ (fun k hk => ?_)
      · rw [b2 k hk, if_pos z]
      · rw [c1, if_pos z']
      · rw [c2 k hk, if_pos z']
    · have z' : ¬ yn0 p = 0 := fun w => z (a3.mpr w)
      obtain ⟨⟨a, ha, e1, e2⟩, h⟩ := a4 z
      refine ⟨⟨a, ha, ?_, ?_⟩, fun k hk => ?_⟩
      · rw [b2 10 (by omega), if_neg z]; exact e1
      · rw [c1, if_neg z']; exact e2
      · rw [b2 k (by omega), if_neg z, c2 k hk, if_neg z']; exact h k hk
  · rw [b1, hyn p hp]
theorem i_vc_flush {k : Nat} {u : SX} {v : SY} (I : i_Rel k u v) (hk : k + 4 ≤ 2048) : wpX_flush (fun r u' => wpY_flush (fun r' v' => r' = r ∧ i_Rel (k + 4) u' v') v) u := by
  obtain ⟨x_records, x_removedCount, x_flushed, x_drafted, x_height, x_time, x_foundAt, x_recordStream, x_recordType, x_recordVersion, x_recordValue, x_originProjection, x_originPosition, x_originInstruction, x_joined, x_removed, x_eventCount, x_cutLevel, x_draftType, x_draftValue, x_ops, x_arguments, x_programLength, x_states, x_noted, x_stack, x_metHeight, x_groupType, x_cursor, x_keptCursor, x_parked, x_rowCount, x_rowPosition, x_rowTimes, x_rowDue⟩ := u
  obtain ⟨y_count, y_flushed, y_calls, y_drafted, y_top, y_time, y_isCut, y_removed, y_stream, y_type, y_from, y_by, y_value, y_version, y_on, y_call, y_draftType, y_draftValue, y_op, y_with, y_length, y_height, y_torn, y_stack, y_position, y_cells, y_noted, y_wanted, y_formed, y_cursor, y_parked, y_where, y_often, y_due, y_many, y_found⟩ := v
  have J := i_up I
  obtain ⟨q, hq, c, f, d, L, hL, hD, hP, hS, hG, hF⟩ := I
  have hl := hL.2.2.2.2.2.2.2.2.2.2.2.2.2
  have hfc : f ≤ c := hl.1.2.1
  have hr := hL.1
  have hc := hL.2.1
  have hf1 := hL.2.2.1
  have hf2 := hL.2.2.2.1
  subst hr hc hf1 hf2
  refine nm_r (e' := nI (c - f)) (pk_sub hfc) (ex_fl (fun st xn hx => ?_))
  have hQ : es_Q c c d L q (nI c, x_removedCount, nI c, x_drafted, x_height, x_time, x_foundAt, x_recordStream, x_recordType, x_recordVersion, x_recordValue, x_originProjection, x_originPosition, x_originInstruction, x_joined, x_removed, x_eventCount, x_cutLevel, x_draftType, x_draftValue, x_ops, x_arguments, x_programLength, st, xn, x_stack, x_metHeight, x_groupType, x_cursor, x_keptCursor, x_parked, x_rowCount, x_rowPosition, x_rowTimes, x_rowDue) (nI c, nI c, y_calls, y_drafted, y_top, y_time, y_isCut, y_removed, y_stream, y_type, y_from, y_by, y_value, y_version, y_on, y_call, y_draftType, y_draftValue, y_op, y_with, y_length, y_height, y_torn, y_stack, es_fpo y_position y_noted, es_fce y_cells y_noted, es_fyn y_noted, y_wanted, y_formed, y_cursor, y_parked, y_where, y_often, y_due, y_many, y_found) :=
    ⟨⟨rfl, rfl, rfl, rfl, hL.2.2.2.2.1, hL.2.2.2.2.2.1, hL.2.2.2.2.2.2.1, hL.2.2.2.2.2.2.2.1, hL.2.2.2.2.2.2.2.2.1, hL.2.2.2.2.2.2.2.2.2.1, hL.2.2.2.2.2.2.2.2.2.2.1, hL.2.2.2.2.2.2.2.2.2.2.2.1, hL.2.2.2.2.2.2.2.2.2.2.2.2.1, es_Log_flush hl⟩, hD, hP, es_St_fl hS hfc hx (es_FY_x _ _ _) (fun p hp => if_pos hp), es_RG_m hG (Nat.le_refl c) hfc, hF⟩
  obtain ⟨s1, v1, hQ1, hX1, hY1⟩ := em_keep (g := 0) hQ (by omega)
  obtain ⟨w_1, w_2, w_3, w_4, w_5, w_6, w_7, w_8, w_9, w_10, w_11, w_12, w_13, w_14, w_15, w_16, w_17, w_18, w_19, w_20, w_21, w_22, w_23, w_24, w_25, w_26, w_27, w_28, w_29, w_30, w_31, w_32, w_33, w_34, w_35⟩ := s1
  obtain ⟨t_1, t_2, t_3, t_4, t_5, t_6, t_7, t_8, t_9, t_10, t_11, t_12, t_13, t_14, t_15, t_16, t_17, t_18, t_19, t_20, t_21, t_22, t_23, t_24, t_25, t_26, t_27, t_28, t_29, t_30, t_31, t_32, t_33, t_34, t_35, t_36⟩ := v1
  obtain ⟨s2, v2, hQ2, hX2, hY2⟩ := em_keep (g := 1) hQ1 (by omega)
  refine ⟨3, br_f (by decide) (hX1 _ (nm_r es_01 (br_f (by decide) (hX2 _ ?_))))⟩
  obtain ⟨w_1, w_2, w_3, w_4, w_5, w_6, w_7, w_8, w_9, w_10, w_11, w_12, w_13, w_14, w_15, w_16, w_17, w_18, w_19, w_20, w_21, w_22, w_23, w_24, w_25, w_26, w_27, w_28, w_29, w_30, w_31, w_32, w_33, w_34, w_35⟩ := s2
  refine nm_r es_12 (br_t (by decide) ?_)
  refine nm_r (e' := nI (c - f)) (pk_sub hfc) (ey_fl ⟨3, br_f (by decide) (hY1 _ (nm_r es_01 (br_f (by decide) (hY2 _ ?_))))⟩)
  obtain ⟨t_1, t_2, t_3, t_4, t_5, t_6, t_7, t_8, t_9, t_10, t_11, t_12, t_13, t_14, t_15, t_16, t_17, t_18, t_19, t_20, t_21, t_22, t_23, t_24, t_25, t_26, t_27, t_28, t_29, t_30, t_31, t_32, t_33, t_34, t_35, t_36⟩ := v2
  exact nm_r es_12 (br_t (by decide) ⟨rfl, q, by omega, c, c, d, L, hQ2⟩)
end
