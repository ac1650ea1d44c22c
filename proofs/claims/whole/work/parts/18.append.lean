section
/-! append and cut -/
variable {x_records x_removedCount x_flushed x_drafted x_height x_time x_foundAt : Int32} {x_recordStream x_recordType x_recordVersion x_recordValue x_originProjection x_originPosition x_originInstruction x_joined x_removed x_eventCount x_cutLevel x_draftType x_draftValue x_ops x_arguments x_programLength x_states x_noted x_stack x_metHeight x_groupType x_cursor x_keptCursor x_parked x_rowCount x_rowPosition x_rowTimes x_rowDue : Nat → Int32} {y_count y_flushed y_calls y_drafted y_top y_time : Int32} {y_isCut y_removed y_stream y_type y_from y_by y_value y_version y_on y_call y_draftType y_draftValue y_op y_with y_length y_height y_torn y_stack y_position y_cells y_noted y_wanted y_formed y_cursor y_parked y_where y_often y_due y_many y_found : Nat → Int32} {c f q : Nat} {cut rm str ty fr byi val ver onn call oi jn ec cl : Nat → Int32} {d : Nat} {L : Nat → Nat}
/-- an event comes, on both sides: the log's arrays after it -/
theorem es_Q_ev {s t : Nat} {v : Int32} {jv : Int32} (H : es_Q c f d L q (nI c, x_removedCount, nI f, x_drafted, x_height, x_time, x_foundAt, str, es_T cut ty, es_V cut ver val, es_W cut val, fr, onn, oi, jn, rm, ec, cl, x_draftType, x_draftValue, x_ops, x_arguments, x_programLength, x_states, x_noted, x_stack, x_metHeight, x_groupType, x_cursor, x_keptCursor, x_parked, x_rowCount, x_rowPosition, x_rowTimes, x_rowDue) (nI c, nI f, nI q, y_drafted, y_top, y_time, cut, rm, str, ty, fr, byi, val, ver, onn, call, y_draftType, y_draftValue, y_op, y_with, y_length, y_height, y_torn, y_stack, y_position, y_cells, y_noted, y_wanted, y_formed, y_cursor, y_parked, y_where, y_often, y_due, y_many, y_found))
    (hc : c < 2000) (hr : c - es_rc rm c < 40) (hs : s < 5) (ht : t < 8) (hj : 0 < c → (jv = 0 ↔ ¬ call (c - 1) = nI q)) :
    es_Q (c + 1) f d L q
      (nI (c + 1), x_removedCount, nI f, x_drafted, x_height, x_time, x_foundAt, upd str c (nI s), upd (es_T cut ty) c (nI t), upd (es_V cut ver val) c (nI (es_ev cut str (nI s) c)), upd (es_W cut val) c v, upd fr c (-1), upd onn c (-1), upd oi c (-1), upd jn c jv, rm, upd ec s (ec s + 1), cl, x_draftType, x_draftValue, x_ops, x_arguments, x_programLength, x_states, x_noted, x_stack, x_metHeight, x_groupType, x_cursor, x_keptCursor, x_parked, x_rowCount, x_rowPosition, x_rowTimes, x_rowDue)
      (nI (c + 1), nI f, nI q, y_drafted, y_top, y_time, upd cut c 0, rm, upd str c (nI s), upd ty c (nI t), upd fr c (-1), byi, upd val c v, upd ver c (nI (es_ev cut str (nI s) c)), upd onn c (-1), upd call c (nI q), y_draftType, y_draftValue, y_op, y_with, y_length, y_height, y_torn, y_stack, y_position, y_cells, y_noted, y_wanted, y_formed, y_cursor, y_parked, y_where, y_often, y_due, y_many, y_found) := by
  have := es_Q_add (b := 0) (v := v) (fo := -1) (ov := -1) (bv := byi c) (ev := -1) (jv := jv) (byi' := byi) (ec' := upd ec s (ec s + 1)) (cl' := cl) H hc hr hs ht (fun _ _ => rfl) rfl (Or.inl rfl) hj ?_ ?_
  · simpa only [if_true] using this
  · intro s' hs'
    by_cases e : s' = s
    · subst e; rw [pk_us, if_pos ⟨rfl, rfl⟩]
    · rw [pk_un e, if_neg (fun z => e z.2)]
  · intro s' hs'
    rw [if_neg (fun z => z.1 rfl)]
theorem es_Tu0 {t : Int32} : es_T (upd cut c 0) (upd ty c t) = upd (es_T cut ty) c t := by rw [es_Tu, if_pos rfl]
theorem es_Vu0 {w v : Int32} : es_V (upd cut c 0) (upd ver c w) (upd val c v) = upd (es_V cut ver val) c w := by rw [es_Vu, if_pos rfl]
theorem es_Wu0 {v : Int32} : es_W (upd cut c 0) (upd val c v) = upd (es_W cut val) c v := by rw [es_Wu, if_pos rfl]
theorem em_app {m : Nat} : ∀ {i c0 s c : Nat} {cut str ty fr val ver onn call oi jn ec : Nat → Int32}, s < 5 → i + m = d → c = c0 + i → c0 + d ≤ 2000 → c + m - es_rc rm c ≤ 40 → (i = 0 → 0 < c → ¬ call (c - 1) = nI q) → (0 < i → call (c - 1) = nI q) →
    es_Q c f d L q (nI c, x_removedCount, nI f, nI d, x_height, x_time, x_foundAt, str, es_T cut ty, es_V cut ver val, es_W cut val, fr, onn, oi, jn, rm, ec, cl, y_draftType, y_draftValue, x_ops, x_arguments, x_programLength, x_states, x_noted, x_stack, x_metHeight, x_groupType, x_cursor, x_keptCursor, x_parked, x_rowCount, x_rowPosition, x_rowTimes, x_rowDue) (nI c, nI f, nI q, nI d, y_top, y_time, cut, rm, str, ty, fr, byi, val, ver, onn, call, y_draftType, y_draftValue, y_op, y_with, y_length, y_height, y_torn, y_stack, y_position, y_cells, y_noted, y_wanted, y_formed, y_cursor, y_parked, y_where, y_often, y_due, y_many, y_found) →
    ∃ (u' : SX) (v' : SY), es_Q (c0 + d) f 0 L q u' v' ∧
      (∀ post : Int32 → SX → Prop, post (nI c0) u' → wX_append_60 post (nI s) (nI c0) (m + 1) (nI i) (nI c) x_removedCount (nI f) (nI d) x_height x_time x_foundAt str (es_T cut ty) (es_V cut ver val) (es_W cut val) fr onn oi jn rm ec cl y_draftType y_draftValue x_ops x_arguments x_programLength x_states x_noted x_stack x_metHeight x_groupType x_cursor x_keptCursor x_parked x_rowCount x_rowPosition x_rowTimes x_rowDue) ∧
      (∀ post : Int32 → SY → Prop, post (nI c0) v' → wY_append_91 post (nI s) (nI c0) (m + 1) (nI i) (nI c) (nI f) (nI q) (nI d) y_top y_time cut rm str ty fr byi val ver onn call y_draftType y_draftValue y_op y_with y_length y_height y_torn y_stack y_position y_cells y_noted y_wanted y_formed y_cursor y_parked y_where y_often y_due y_many y_found) := by
  induction m with
  | zero =>
    intro i c0 s c cut str ty fr val ver onn call oi jn ec hs hi hc hroom hr hj0 hj1 H
    have e : c = c0 + d := by omega
    refine ⟨(nI c, x_removedCount, nI f, 0, x_height, x_time, x_foundAt, str, es_T cut ty, es_V cut ver val, es_W cut val, fr, onn, oi, jn, rm, ec, cl, y_draftType, y_draftValue, x_ops, x_arguments, x_programLength, x_states, x_noted, x_stack, x_metHeight, x_groupType, x_cursor, x_keptCursor, x_parked, x_rowCount, x_rowPosition, x_rowTimes, x_rowDue), (nI c, nI f, nI q, 0, y_top, y_time, cut, rm, str, ty, fr, byi, val, ver, onn, call, y_draftType, y_draftValue, y_op, y_with, y_length, y_height, y_torn, y_stack, y_position, y_cells, y_noted, y_wanted, y_formed, y_cursor, y_parked, y_where, y_often, y_due, y_many, y_found), ?_, fun post hp => br_t (nI_le (by omega) (by have := H.2.1.2.2.1; omega)) hp, fun post hp => br_t (nI_le (by omega) (by have := H.2.1.2.2.1; omega)) hp⟩
    rw [← e]
    exact ⟨H.1, ⟨rfl, rfl, by omega, rfl, rfl, H.2.1.2.2.2.2.2⟩, H.2.2⟩
  | succ m ih =>
    intro i c0 s c cut str ty fr val ver onn call oi jn ec hs hi hc hroom hr hj0 hj1 H
    have hd4 : d ≤ 4 := H.2.1.2.2.1
    obtain ⟨t, ht, et⟩ := H.2.1.2.2.2.2.2 i
    have hl := H.1.2.2.2.2.2.2.2.2.2.2.2.2.2
    have h4 : rm c = 0 := (hl.2.2.2.2.1 c).2 hl.1.2.1
    have hec : ec s = nI (es_ev cut str (nI s) c) := hl.2.2.2.2.2.1 s hs
    have hrc := es_rc_le rm c
    have H2 := es_Q_ev (v := y_draftValue i) (jv := if i = 0 then 0 else 1) H (by omega) (by omega) hs ht (fun h0 => by
      by_cases z : i = 0
      · rw [if_pos z]; exact ⟨fun _ => hj0 z h0, fun _ => rfl⟩
      · rw [if_neg z]; exact ⟨fun w => absurd w (by decide), fun w => absurd (hj1 (by omega)) w⟩)
    rw [← es_Tu0, ← es_Vu0 (v := y_draftValue i), ← es_Wu0] at H2
    obtain ⟨u', v', hQ, hX, hY⟩ := ih (i := i + 1) (c0 := c0) (s := s) (c := c + 1) (call := upd call c (nI q)) hs (by omega) (by omega) hroom (by rw [es_rc_add h4]; omega) (fun z => by omega) (fun _ => by rw [show c + 1 - 1 = c by omega, pk_us]) H2
    have ci : (nI i).toNatClampNeg = i := nI_clamp (by omega)
    have cs : (nI s).toNatClampNeg = s := nI_clamp (by omega)
    have vi : vp_in (nI i) 4 := vp_in_nI (by omega) (by decide)
    have vs : vp_in (nI s) 5 := vp_in_nI (by omega) (by decide)
    have vc : vp_in (nI c0 + nI i) 2000 := by rw [nI_add]; exact vp_in_nI (by omega) (by decide)
    have cc : (nI c0 + nI i).toNatClampNeg = c := by rw [nI_add, nI_clamp (by omega)]; omega
    refine ⟨u', v', hQ, fun post hp => br_f (nI_ge (by omega) (by omega)) ⟨vi, vs, vi, ?_⟩, fun post hp => br_f (nI_ge (by omega) (by omega)) ⟨vi, vi, ?_⟩⟩
    · rw [ci, cs, et, hec]
      refine ex_addE (by omega) hs ht ?_
      have hx := hX post hp
      rw [es_Tu0, es_Vu0, es_Wu0] at hx
      by_cases z : i = 0
      · rw [if_pos z] at hx
        refine br_t (by rw [z]; exact Int32.le_refl 0) ⟨vc, nm_r (e' := upd jn c 0) (by rw [cc, es_nb0, es_uu]) (nm_r (nI_1 _) ?_)⟩
        rw [hec] at hx ⊢
        exact hx
      · rw [if_neg z] at hx
        refine br_f (nI_nle (by omega) (by omega)) ⟨vc, nm_r (e' := upd jn c 1) (by rw [cc, es_nb1, es_uu]) (nm_r (nI_1 _) ?_)⟩
        rw [hec] at hx ⊢
        exact hx
    · rw [ci, et]
      exact ey_add (by omega) hs ht es_nb0 h4 (nm_r (nI_1 _) (hY post hp))
theorem i_vc_append {k : Nat} {u : SX} {v : SY} (I : i_Rel k u v) (hk : k + 4 ≤ 2048) (v1 : Int32) (v2 : Int32) : wpX_append (fun r u' => wpY_append (fun r' v' => r' = r ∧ i_Rel (k + 4) u' v') v v1 v2) u v1 v2 := by
  obtain ⟨x_records, x_removedCount, x_flushed, x_drafted, x_height, x_time, x_foundAt, x_recordStream, x_recordType, x_recordVersion, x_recordValue, x_originProjection, x_originPosition, x_originInstruction, x_joined, x_removed, x_eventCount, x_cutLevel, x_draftType, x_draftValue, x_ops, x_arguments, x_programLength, x_states, x_noted, x_stack, x_metHeight, x_groupType, x_cursor, x_keptCursor, x_parked, x_rowCount, x_rowPosition, x_rowTimes, x_rowDue⟩ := u
  obtain ⟨y_count, y_flushed, y_calls, y_drafted, y_top, y_time, y_isCut, y_removed, y_stream, y_type, y_from, y_by, y_value, y_version, y_on, y_call, y_draftType, y_draftValue, y_op, y_with, y_length, y_height, y_torn, y_stack, y_position, y_cells, y_noted, y_wanted, y_formed, y_cursor, y_parked, y_where, y_often, y_due, y_many, y_found⟩ := v
  have J := i_up I
  obtain ⟨q, hq, c, f, d, L, hL, hD, hP, hS, hG, hF⟩ := I
  obtain ⟨rfl, rfl, rfl, rfl, rfl, rfl, rfl, rfl, rfl, rfl, rfl, rfl, rfl, hl⟩ := hL
  obtain ⟨rfl, rfl, hd, rfl, rfl, hdt⟩ := hD
  dsimp only [wpX_append]
  rcases es_rg v1 5 (by decide) with h | ⟨s, hs, rfl⟩
  · refine ex_isStream0 h (br_t rfl ?_)
    dsimp only [wpY_append]
    exact ey_outT 5 rfl h (br_f (by decide) ⟨rfl, J⟩)
  · refine ex_isStream1 hs (br_f (by decide) ?_)
    by_cases d0 : d = 0
    · subst d0
      refine br_t rfl ?_
      dsimp only [wpY_append]
      exact ey_outF 5 s rfl (by decide) hs (br_t rfl (br_t rfl ⟨rfl, J⟩))
    · have hd0 : ¬ nI d = 0 := fun z => d0 ((es_eq0 (by omega)).mp z)
      have hc := hl.1.1
      have hrc := es_rc_le y_removed c
      have hec : x_eventCount s = nI (es_ev y_isCut y_stream (nI s) c) := hl.2.2.2.2.2.1 s hs
      -- from the check of room on
      have go : ∀ (WY : (Int32 → SY → Prop) → Prop), (∀ P : Int32 → SY → Prop, wY_append_41 P (nI s) (nI c) (nI f) (nI q) (nI d) y_top y_time y_isCut y_removed y_stream y_type y_from y_by y_value y_version y_on y_call y_draftType y_draftValue y_op y_with y_length y_height y_torn y_stack y_position y_cells y_noted y_wanted y_formed y_cursor y_parked y_where y_often y_due y_many y_found → WY P) →
          wX_append_38 (fun r u' => WY (fun r' v' => r' = r ∧ i_Rel (k + 4) u' v')) (nI s) (nI c) (nI (es_rc y_removed c)) (nI f) (nI d) x_height x_time x_foundAt y_stream (es_T y_isCut y_type) (es_V y_isCut y_version y_value) (es_W y_isCut y_value) y_from y_on x_originInstruction x_joined y_removed x_eventCount x_cutLevel y_draftType y_draftValue x_ops x_arguments x_programLength x_states x_noted x_stack x_metHeight x_groupType x_cursor x_keptCursor x_parked x_rowCount x_rowPosition x_rowTimes x_rowDue := by
        intro WY hW
        by_cases room : c - es_rc y_removed c + d ≤ 40 ∧ c + d ≤ 2000
        · refine ex_hasRoom1 hc room.1 room.2 (br_f (by decide) ?_)
          obtain ⟨u', v', hQ, hX, hY⟩ := em_app (m := d) (i := 0) (c0 := c) (c := c) (s := s) (q := q + 1) hs (by omega) (by omega) room.2 (by omega) (fun _ h0 => (es_Log_fresh hl (by omega) h0).mp rfl) (fun z => by omega) ⟨⟨rfl, rfl, rfl, rfl, rfl, rfl, rfl, rfl, rfl, rfl, rfl, rfl, rfl, es_Log_q hl (by omega)⟩, ⟨rfl, rfl, hd, rfl, rfl, hdt⟩, hP, hS, hG, hF⟩
          refine ⟨_, hX _ (hW _ ?_)⟩
          refine ey_there hc (br_f ?_ (br_t ?_ (nm_r (nI_1 _) ⟨_, hY _ ⟨rfl, q + 1, by omega, c + d, f, 0, L, hQ⟩⟩)))
          · rw [nI_add]; exact nI_nlt (a := 40) room.1 (by decide)
          · rw [nI_add]; exact nI_le (b := 2000) room.2 (by decide)
        · refine ex_hasRoom0 hc hd room (br_t rfl (hW _ ?_))
          by_cases z : c - es_rc y_removed c + d ≤ 40
          · refine ey_there hc (br_f ?_ (br_f ?_ ⟨rfl, J⟩))
            · rw [nI_add]; exact nI_nlt (a := 40) z (by decide)
            · rw [nI_add]; exact nI_ge (a := 2000) (by omega) (by omega)
          · refine ey_there hc (br_t ?_ ⟨rfl, J⟩)
            rw [nI_add]; exact nI_lt (a := 40) (by omega) (by omega)
      refine br_f hd0 ?_
      by_cases z2 : v2 = -2
      · exact br_t z2 (go (fun P => wpY_append P (nI c, nI f, nI q, nI d, y_top, y_time, y_isCut, y_removed, y_stream, y_type, y_from, y_by, y_value, y_version, y_on, y_call, y_draftType, y_draftValue, y_op, y_with, y_length, y_height, y_torn, y_stack, y_position, y_cells, y_noted, y_wanted, y_formed, y_cursor, y_parked, y_where, y_often, y_due, y_many, y_found) (nI s) v2) (fun P h => by dsimp only [wpY_append]; exact ey_outF 5 s rfl (by decide) hs (br_t rfl (br_f hd0 (br_t z2 h)))))
      · refine br_f z2 ⟨vp_in_nI hs (by decide), ?_⟩
        rw [nI_clamp (by omega), hec]
        refine br_c (fun z3 => ?_) (fun z3 => ?_)
        · exact go (fun P => wpY_append P (nI c, nI f, nI q, nI d, y_top, y_time, y_isCut, y_removed, y_stream, y_type, y_from, y_by, y_value, y_version, y_on, y_call, y_draftType, y_draftValue, y_op, y_with, y_length, y_height, y_torn, y_stack, y_position, y_cells, y_noted, y_wanted, y_formed, y_cursor, y_parked, y_where, y_often, y_due, y_many, y_found) (nI s) v2) (fun P h => by dsimp only [wpY_append]; exact ey_outF 5 s rfl (by decide) hs (br_t rfl (br_f hd0 (br_f z2 (ey_events hc (br_t z3 h))))))
        · dsimp only [wpY_append]
          exact ey_outF 5 s rfl (by decide) hs (br_t rfl (br_f hd0 (br_f z2 (ey_events hc (br_f z3 ⟨rfl, J⟩)))))
theorem i_vc_cut {k : Nat} {u : SX} {v : SY} (I : i_Rel k u v) (hk : k + 4 ≤ 2048) (v1 : Int32) (v2 : Int32) : wpX_cut (fun r u' => wpY_cut (fun r' v' => r' = r ∧ i_Rel (k + 4) u' v') v v1 v2) u v1 v2 := by
  obtain ⟨x_records, x_removedCount, x_flushed, x_drafted, x_height, x_time, x_foundAt, x_recordStream, x_recordType, x_recordVersion, x_recordValue, x_originProjection, x_originPosition, x_originInstruction, x_joined, x_removed, x_eventCount, x_cutLevel, x_draftType, x_draftValue, x_ops, x_arguments, x_programLength, x_states, x_noted, x_stack, x_metHeight, x_groupType, x_cursor, x_keptCursor, x_parked, x_rowCount, x_rowPosition, x_rowTimes, x_rowDue⟩ := u
  obtain ⟨y_count, y_flushed, y_calls, y_drafted, y_top, y_time, y_isCut, y_removed, y_stream, y_type, y_from, y_by, y_value, y_version, y_on, y_call, y_draftType, y_draftValue, y_op, y_with, y_length, y_height, y_torn, y_stack, y_position, y_cells, y_noted, y_wanted, y_formed, y_cursor, y_parked, y_where, y_often, y_due, y_many, y_found⟩ := v
  have J := i_up I
  obtain ⟨q, hq, c, f, d, L, hL, hD, hP, hS, hG, hF⟩ := I
  obtain ⟨rfl, rfl, rfl, rfl, rfl, rfl, rfl, rfl, rfl, rfl, rfl, rfl, rfl, hl⟩ := hL
  dsimp only [wpX_cut, wpY_cut]
  rcases es_rg v1 5 (by decide) with h | ⟨s, hs, rfl⟩
  · exact ex_isStream0 h (br_t rfl (ey_outT 5 rfl h (br_f (by decide) ⟨rfl, J⟩)))
  · refine ex_isStream1 hs (br_f (by decide) ?_)
    have hc := hl.1.1
    have hrc := es_rc_le y_removed c
    have hec : x_eventCount s = nI (es_ev y_isCut y_stream (nI s) c) := hl.2.2.2.2.2.1 s hs
    by_cases z : v2 < 0
    · exact br_t z (ey_outF 5 s rfl (by decide) hs (br_t rfl (br_t z ⟨rfl, J⟩)))
    · refine br_f z ⟨vp_in_nI hs (by decide), ?_⟩
      rw [nI_clamp (by omega), hec]
      refine br_c (fun z3 => ?_) (fun z3 => ?_)
      · have h4 : y_removed c = 0 := (hl.2.2.2.2.1 c).2 hl.1.2.1
        by_cases room : c - es_rc y_removed c + 1 ≤ 40 ∧ c + 1 ≤ 2000
        · refine ex_hasRoom1 (n := 1) hc room.1 room.2 (br_f (by decide) ?_)
          refine ex_addC (by omega) hs (fun cl' hcl => ?_)
          have hQ0 : es_Q c f d L (q + 1) (nI c, nI (es_rc y_removed c), nI f, x_drafted, x_height, x_time, x_foundAt, y_stream, es_T y_isCut y_type, es_V y_isCut y_version y_value, es_W y_isCut y_value, y_from, y_on, x_originInstruction, x_joined, y_removed, x_eventCount, x_cutLevel, x_draftType, x_draftValue, x_ops, x_arguments, x_programLength, x_states, x_noted, x_stack, x_metHeight, x_groupType, x_cursor, x_keptCursor, x_parked, x_rowCount, x_rowPosition, x_rowTimes, x_rowDue) (nI c, nI f, nI (q + 1), y_drafted, y_top, y_time, y_isCut, y_removed, y_stream, y_type, y_from, y_by, y_value, y_version, y_on, y_call, y_draftType, y_draftValue, y_op, y_with, y_length, y_height, y_torn, y_stack, y_position, y_cells, y_noted, y_wanted, y_formed, y_cursor, y_parked, y_where, y_often, y_due, y_many, y_found) := ⟨⟨rfl, rfl, rfl, rfl, rfl, rfl, rfl, rfl, rfl, rfl, rfl, rfl, rfl, es_Log_q hl (by omega)⟩, hD, hP, hS, hG, hF⟩
          have hQ := es_Q_add (b := 1) (v := v2) (fo := -1) (ov := -1) (bv := y_by c) (ev := -1) (jv := 0) (byi' := y_by) (s := s) (t := 0) (ec' := x_eventCount) (cl' := cl') (q := q + 1) (c := c) (f := f) (d := d) (L := L)
            hQ0 (by omega) (by omega) hs (by omega) (fun _ _ => rfl) rfl (Or.inl rfl) (fun h0 => es_Log_fresh hl (by omega) h0)
            (fun s' hs' => by rw [if_neg (fun w => absurd w.1 (by decide))])
            (fun s' hs' => by
              rw [hcl s']
              by_cases w : s' = s ∧ x_cutLevel s' < v2
              · rw [if_pos w, if_pos ⟨by decide, w⟩]
              · rw [if_neg w, if_neg (fun y => w y.2)])
          have e0 : nI (c + 1) - 1 = nI c := nI_pred c
          dsimp only
          rw [e0]
          refine ey_outF 5 s rfl (by decide) hs (br_t rfl (br_f z (ey_events hc (br_t z3 (ey_there hc (br_f ?_ (br_f ?_ (nm_r (nI_1 _) (ey_add (t := 0) (by omega) hs (by omega) es_nb1 h4 ⟨rfl, q + 1, by omega, c + 1, f, d, L, ?_⟩)))))))))
          · exact fun w => by have := es_inj (b := 40) w (by omega) (by decide); omega
          · exact fun w => by have := es_inj (b := 2000) w (by omega) (by decide); omega
          · simpa only [show ¬ (1 : Int32) = 0 by decide, if_false] using hQ
        · refine ex_hasRoom0 (n := 1) hc (by omega) room (br_t rfl ?_)
          by_cases w : c - es_rc y_removed c = 40
          · exact ey_outF 5 s rfl (by decide) hs (br_t rfl (br_f z (ey_events hc (br_t z3 (ey_there hc (br_t (by rw [w]; rfl) ⟨rfl, J⟩))))))
          · have e2 : c = 2000 := by have := hl.1.2.2; omega
            refine ey_outF 5 s rfl (by decide) hs (br_t rfl (br_f z (ey_events hc (br_t z3 (ey_there hc (br_f ?_ (br_t (by rw [e2]; rfl) ⟨rfl, J⟩)))))))
            exact fun y => w (es_inj (b := 40) y (by omega) (by decide))
      · exact ey_outF 5 s rfl (by decide) hs (br_t rfl (br_f z (ey_events hc (br_f z3 ⟨rfl, J⟩))))
end
