section
/-! an event is emitted, once -/
variable {x_records x_removedCount x_flushed x_drafted x_height x_time x_foundAt : Int32} {x_recordStream x_recordType x_recordVersion x_recordValue x_originProjection x_originPosition x_originInstruction x_joined x_removed x_eventCount x_cutLevel x_draftType x_draftValue x_ops x_arguments x_programLength x_states x_noted x_stack x_metHeight x_groupType x_cursor x_keptCursor x_parked x_rowCount x_rowPosition x_rowTimes x_rowDue : Nat → Int32} {y_count y_flushed y_calls y_drafted y_top y_time : Int32} {y_isCut y_removed y_stream y_type y_from y_by y_value y_version y_on y_call y_draftType y_draftValue y_op y_with y_length y_height y_torn y_stack y_position y_cells y_noted y_wanted y_formed y_cursor y_parked y_where y_often y_due y_many y_found : Nat → Int32} {c f q : Nat} {cut rm str ty fr byi val ver onn call oi jn ec cl : Nat → Int32} {d : Nat} {L : Nat → Nat}
theorem ex_push {pst : SX → Prop} {h : Nat} {v : Int32} (hh : h < 4) (hp : pst (x_records, x_removedCount, x_flushed, x_drafted, nI (h + 1), x_time, x_foundAt, x_recordStream, x_recordType, x_recordVersion, x_recordValue, x_originProjection, x_originPosition, x_originInstruction, x_joined, x_removed, x_eventCount, x_cutLevel, x_draftType, x_draftValue, x_ops, x_arguments, x_programLength, x_states, x_noted, upd x_stack h v, x_metHeight, x_groupType, x_cursor, x_keptCursor, x_parked, x_rowCount, x_rowPosition, x_rowTimes, x_rowDue)) : wpX_push pst (x_records, x_removedCount, x_flushed, x_drafted, nI h, x_time, x_foundAt, x_recordStream, x_recordType, x_recordVersion, x_recordValue, x_originProjection, x_originPosition, x_originInstruction, x_joined, x_removed, x_eventCount, x_cutLevel, x_draftType, x_draftValue, x_ops, x_arguments, x_programLength, x_states, x_noted, x_stack, x_metHeight, x_groupType, x_cursor, x_keptCursor, x_parked, x_rowCount, x_rowPosition, x_rowTimes, x_rowDue) v :=
  br_f (nI_ge (b := 4) hh (by decide)) ⟨vp_in_nI hh (by decide), nm_r (e' := upd x_stack h v) (by rw [nI_clamp (by omega)]) (nm_r (nI_1 _) hp)⟩
theorem ex_pop {pst : Int32 → SX → Prop} {h : Nat} (h0 : 0 < h) (hh : h ≤ 4) (hp : pst (x_stack (h - 1)) (x_records, x_removedCount, x_flushed, x_drafted, nI (h - 1), x_time, x_foundAt, x_recordStream, x_recordType, x_recordVersion, x_recordValue, x_originProjection, x_originPosition, x_originInstruction, x_joined, x_removed, x_eventCount, x_cutLevel, x_draftType, x_draftValue, x_ops, x_arguments, x_programLength, x_states, x_noted, x_stack, x_metHeight, x_groupType, x_cursor, x_keptCursor, x_parked, x_rowCount, x_rowPosition, x_rowTimes, x_rowDue)) : wpX_pop pst (x_records, x_removedCount, x_flushed, x_drafted, nI h, x_time, x_foundAt, x_recordStream, x_recordType, x_recordVersion, x_recordValue, x_originProjection, x_originPosition, x_originInstruction, x_joined, x_removed, x_eventCount, x_cutLevel, x_draftType, x_draftValue, x_ops, x_arguments, x_programLength, x_states, x_noted, x_stack, x_metHeight, x_groupType, x_cursor, x_keptCursor, x_parked, x_rowCount, x_rowPosition, x_rowTimes, x_rowDue) := by
  refine br_f (fun z => by have := (es_eq0 (by omega)).mp z; omega) (nm_r (es_s1 h0) ⟨vp_in_nI (by omega) (by decide), ?_⟩)
  rw [nI_clamp (by omega)]
  exact hp
def es_em (fr onn oi : Nat → Int32) (p a i : Nat) (k : Nat) : Prop := fr k = nI p ∧ onn k = nI a ∧ oi k = nI i
theorem ex_was {post : Int32 → Prop} {p a i : Nat} (H : es_Log c f q cut rm str ty fr byi val ver onn call oi jn ec cl) (hp3 : p < 3) (hac : a < c) (h1 : (∃ k, k < c ∧ es_em fr onn oi p a i k) → post 1) (h0 : ¬ (∃ k, k < c ∧ es_em fr onn oi p a i k) → post 0) :
    wpX_wasEmitted post (nI c, x_removedCount, nI f, x_drafted, x_height, x_time, x_foundAt, str, es_T cut ty, es_V cut ver val, es_W cut val, fr, onn, oi, jn, rm, ec, cl, x_draftType, x_draftValue, x_ops, x_arguments, x_programLength, x_states, x_noted, x_stack, x_metHeight, x_groupType, x_cursor, x_keptCursor, x_parked, x_rowCount, x_rowPosition, x_rowTimes, x_rowDue) (nI p) (nI a) (nI i) := by
  have hc := H.1.1
  have low : ∀ k, k ≤ a → ¬ es_em fr onn oi p a i k := by
    intro k hk ⟨e1, e2, e3⟩
    rcases H.2.2.2.2.2.2.2.1 k (by omega) with z | ⟨_, _, o, ho, eo⟩
    · rw [z] at e1
      exact es_m1n (by omega) e1
    · rw [eo] at e2
      have := es_inj e2 (by omega) (by omega)
      omega
  refine nm_r (nI_1 _) ?_
  refine pk_loop (fun n k (_ : Unit) => wX_wasEmitted_5 post (nI p) (nI a) (nI i) (nI c) x_removedCount (nI f) x_drafted x_height x_time x_foundAt str (es_T cut ty) (es_V cut ver val) (es_W cut val) fr onn oi jn rm ec cl x_draftType x_draftValue x_ops x_arguments x_programLength x_states x_noted x_stack x_metHeight x_groupType x_cursor x_keptCursor x_parked x_rowCount x_rowPosition x_rowTimes x_rowDue n (nI k)) (fun k _ => ∀ j, j < k → ¬ es_em fr onn oi p a i j) c (a + 1) () (by omega) (fun j hj => low j (by omega)) ?_ ?_
  · intro n _ hs
    exact br_t (Int32.le_refl _) (h0 (fun ⟨k, hk, e⟩ => hs k hk e))
  · intro n k _ hk hs ih
    have vk : vp_in (nI k) 2000 := vp_in_nI (by omega) (by decide)
    refine br_f (nI_ge hk (by omega)) ⟨vk, ?_⟩
    rw [nI_clamp (by omega)]
    exact br_c (fun z1 => ⟨vk, br_c (fun z2 => ⟨vk, br_c (fun z3 => h1 ⟨k, hk, z1, z2, z3⟩) (fun z3 => nm_r (nI_1 _) (ih () (lt_s hs (fun e => z3 e.2.2))))⟩) (fun z2 => nm_r (nI_1 _) (ih () (lt_s hs (fun e => z2 e.2.1))))⟩) (fun z1 => nm_r (nI_1 _) (ih () (lt_s hs (fun e => z1 e.1))))
theorem es_d8 {e : Nat} (h : e < 40) : nI e / 8 = nI (e / 8) ∧ nI e - nI e / 8 * 8 = nI (e % 8) :=
  ⟨pk_div (d := 8) (by omega) (by omega) (by decide), pk_rem (d := 8) (by omega) (by omega) (by decide)⟩
theorem ey_emit {post : Int32 → SY → Prop} {p a i e : Nat} {v : Int32} (H : es_Log c f q cut rm str ty fr byi val ver onn call oi jn ec cl) (hp3 : p < 3) (hi : i < 14) (he : e < 40) (hq : q + 1 < 2 ^ 31)
    (h1 : (∃ k, k < c ∧ es_em fr onn oi p a i k) → post 1 (nI c, nI f, nI q, y_drafted, y_top, y_time, cut, rm, str, ty, fr, byi, val, ver, onn, call, y_draftType, y_draftValue, y_op, y_with, y_length, y_height, y_torn, y_stack, y_position, y_cells, y_noted, y_wanted, y_formed, y_cursor, y_parked, y_where, y_often, y_due, y_many, y_found))
    (h2 : ¬ (∃ k, k < c ∧ es_em fr onn oi p a i k) → ¬ (c - es_rc rm c + 1 ≤ 40 ∧ c + 1 ≤ 2000) → post 0 (nI c, nI f, nI q, y_drafted, y_top, y_time, cut, rm, str, ty, fr, byi, val, ver, onn, call, y_draftType, y_draftValue, y_op, y_with, y_length, y_height, y_torn, y_stack, y_position, y_cells, y_noted, y_wanted, y_formed, y_cursor, y_parked, y_where, y_often, y_due, y_many, y_found))
    (h3 : ¬ (∃ k, k < c ∧ es_em fr onn oi p a i k) → c - es_rc rm c + 1 ≤ 40 → c + 1 ≤ 2000 → post 1 (nI (c + 1), nI f, nI (q + 1), y_drafted, y_top, y_time, upd cut c 0, rm, upd str c (nI (e / 8)), upd ty c (nI (e % 8)), upd fr c (nI p), upd byi c (nI i), upd val c v, upd ver c (nI (es_ev cut str (nI (e / 8)) c)), upd onn c (nI a), upd call c (nI (q + 1)), y_draftType, y_draftValue, y_op, y_with, y_length, y_height, y_torn, y_stack, y_position, y_cells, y_noted, y_wanted, y_formed, y_cursor, y_parked, y_where, y_often, y_due, y_many, y_found)) :
    wpY_emit post (nI c, nI f, nI q, y_drafted, y_top, y_time, cut, rm, str, ty, fr, byi, val, ver, onn, call, y_draftType, y_draftValue, y_op, y_with, y_length, y_height, y_torn, y_stack, y_position, y_cells, y_noted, y_wanted, y_formed, y_cursor, y_parked, y_where, y_often, y_due, y_many, y_found) (nI p) (nI a) (nI i) (nI e) v := by
  have hc := H.1.1
  have eqv : ∀ k, k < c → (es_em fr onn oi p a i k ↔ (cut k = 0 ∧ fr k = nI p ∧ onn k = nI a ∧ byi k = nI i)) := by
    intro k hk
    rcases H.2.2.2.2.2.2.2.1 k hk with z | ⟨z1, z2, _⟩
    · constructor
      · intro e; have := e.1; rw [z] at this; exact absurd this (es_m1n (by omega))
      · intro e; have := e.2.1; rw [z] at this; exact absurd this (es_m1n (by omega))
    · unfold es_em
      rw [z2]
      exact ⟨fun e => ⟨z1, e⟩, fun e => e.2⟩
  refine loop_0 (fun n k (_ : Unit) => wY_emit_3 post (nI p) (nI a) (nI i) (nI e) v (nI c) (nI f) (nI q) y_drafted y_top y_time cut rm str ty fr byi val ver onn call y_draftType y_draftValue y_op y_with y_length y_height y_torn y_stack y_position y_cells y_noted y_wanted y_formed y_cursor y_parked y_where y_often y_due y_many y_found n (nI k)) (fun k _ => ∀ j, j < k → ¬ es_em fr onn oi p a i j) c () (fun j h => absurd h (Nat.not_lt_zero _)) ?_ ?_
  · intro n _ hs
    have hno : ¬ (∃ k, k < c ∧ es_em fr onn oi p a i k) := fun ⟨k, hk, e⟩ => hs k hk e
    have hr40 := H.1.2.2
    have hrc := es_rc_le rm c
    have h4 : rm c = 0 := (H.2.2.2.2.1 c).2 H.1.2.1
    refine br_t (Int32.le_refl _) (ey_there hc ?_)
    by_cases z : c - es_rc rm c = 40
    · exact br_t (by rw [z]; rfl) (h2 hno (by omega))
    · refine br_f (fun y => z (es_inj (b := 40) y (by omega) (by decide))) ?_
      by_cases w : c = 2000
      · exact br_t (by rw [w]; rfl) (h2 hno (by omega))
      · refine br_f (fun y => w (es_inj (b := 2000) y (by omega) (by decide))) (nm_r (nI_1 _) ⟨by decide, by decide, ?_⟩)
        have hd := es_d8 he
        have hp := es_nar p (by omega)
        have hi' := es_nar i (by omega)
        rw [hd.2, hd.1]
        refine ey_add (by omega) (by omega) (by omega) es_nb0 h4 ⟨vp_in_nI (by omega) (by decide), nm_r (e' := upd fr c (nI p)) ?_ ⟨vp_in_nI (by omega) (by decide), nm_r (e' := upd onn c (nI a)) ?_ ⟨vp_in_nI (by omega) (by decide), nm_r (e' := upd byi c (nI i)) ?_ (h3 hno (by omega) (by omega))⟩⟩⟩
        · rw [nI_clamp (by omega), es_uu, hp.2, hp.1]
        · rw [nI_clamp (by omega), es_uu]
        · rw [nI_clamp (by omega), hi'.2, hi'.1]
  · intro n k _ hk hs ih
    have vk : vp_in (nI k) 2000 := vp_in_nI (by omega) (by decide)
    have ek := eqv k hk
    refine br_f (nI_ge hk (by omega)) ⟨vk, ?_⟩
    rw [nI_clamp (by omega)]
    exact br_c (fun z0 => ⟨vk, br_c (fun z1 => ⟨vk, br_c (fun z2 => ⟨vk, br_c (fun z3 => h1 ⟨k, hk, ek.mpr ⟨z0, z1, z2, z3⟩⟩) (fun z3 => nm_r (nI_1 _) (ih () (lt_s hs (fun e => z3 (ek.mp e).2.2.2))))⟩) (fun z2 => nm_r (nI_1 _) (ih () (lt_s hs (fun e => z2 (ek.mp e).2.2.1))))⟩) (fun z1 => nm_r (nI_1 _) (ih () (lt_s hs (fun e => z1 (ek.mp e).2.1))))⟩) (fun z0 => nm_r (nI_1 _) (ih () (lt_s hs (fun e => z0 (ek.mp e).1))))
theorem ex_emit {post : Int32 → SX → Prop} {p a i e h : Nat} (H : es_Log c f q cut rm str ty fr byi val ver onn call oi jn ec cl) (hp3 : p < 3) (hac : a < c) (he : e < 40) (h0 : 0 < h) (hh : h ≤ 4)
    (h1 : (∃ k, k < c ∧ es_em fr onn oi p a i k) → post 1 (nI c, nI (es_rc rm c), nI f, x_drafted, nI (h - 1), x_time, x_foundAt, str, es_T cut ty, es_V cut ver val, es_W cut val, fr, onn, oi, jn, rm, ec, cl, x_draftType, x_draftValue, x_ops, x_arguments, x_programLength, x_states, x_noted, x_stack, x_metHeight, x_groupType, x_cursor, x_keptCursor, x_parked, x_rowCount, x_rowPosition, x_rowTimes, x_rowDue))
    (h2 : ¬ (∃ k, k < c ∧ es_em fr onn oi p a i k) → ¬ (c - es_rc rm c + 1 ≤ 40 ∧ c + 1 ≤ 2000) → post 0 (nI c, nI (es_rc rm c), nI f, x_drafted, nI (h - 1), x_time, x_foundAt, str, es_T cut ty, es_V cut ver val, es_W cut val, fr, onn, oi, jn, rm, ec, cl, x_draftType, x_draftValue, x_ops, x_arguments, x_programLength, x_states, x_noted, x_stack, x_metHeight, x_groupType, x_cursor, x_keptCursor, x_parked, x_rowCount, x_rowPosition, x_rowTimes, x_rowDue))
    (h3 : ¬ (∃ k, k < c ∧ es_em fr onn oi p a i k) → c - es_rc rm c + 1 ≤ 40 → c + 1 ≤ 2000 → post 1 (nI (c + 1), nI (es_rc rm c), nI f, x_drafted, nI (h - 1), x_time, x_foundAt, upd str c (nI (e / 8)), upd (es_T cut ty) c (nI (e % 8)), upd (es_V cut ver val) c (nI (es_ev cut str (nI (e / 8)) c)), upd (es_W cut val) c (x_stack (h - 1)), upd fr c (nI p), upd onn c (nI a), upd oi c (nI i), upd jn c 0, rm, upd ec (e / 8) (ec (e / 8) + 1), cl, x_draftType, x_draftValue, x_ops, x_arguments, x_programLength, x_states, x_noted, x_stack, x_metHeight, x_groupType, x_cursor, x_keptCursor, x_parked, x_rowCount, x_rowPosition, x_rowTimes, x_rowDue)) :
    wpX_emit post (nI c, nI (es_rc rm c), nI f, x_drafted, nI h, x_time, x_foundAt, str, es_T cut ty, es_V cut ver val, es_W cut val, fr, onn, oi, jn, rm, ec, cl, x_draftType, x_draftValue, x_ops, x_arguments, x_programLength, x_states, x_noted, x_stack, x_metHeight, x_groupType, x_cursor, x_keptCursor, x_parked, x_rowCount, x_rowPosition, x_rowTimes, x_rowDue) (nI p) (nI a) (nI i) (nI e) := by
  have hc := H.1.1
  have hd := es_d8 he
  unfold wpX_emit
  refine ex_pop h0 hh ?_
  refine ex_was H hp3 hac (fun z => br_f (by decide) (h1 z)) (fun z => br_t rfl ?_)
  by_cases room : c - es_rc rm c + 1 ≤ 40 ∧ c + 1 ≤ 2000
  · refine ex_hasRoom1 (n := 1) hc room.1 room.2 (br_f (by decide) ⟨by decide, nm_r hd.1 ⟨by decide, vp_in_nI (by omega) (by decide), ?_⟩⟩)
    have hec : ec (e / 8) = nI (es_ev cut str (nI (e / 8)) c) := H.2.2.2.2.2.1 (e / 8) (by omega)
    have hx := h3 z room.1 room.2
    rw [nI_clamp (by omega), hd.2, hec]
    rw [hec] at hx
    refine ex_addE (by omega) (by omega) (by omega) ?_
    have e1 : nI (c + 1) - 1 = nI c := nI_pred c
    dsimp only
    rw [e1, nI_clamp (by omega)]
    refine ⟨vp_in_nI (by omega) (by decide), nm_r (e' := upd fr c (nI p)) es_uu ⟨vp_in_nI (by omega) (by decide), nm_r (e' := upd onn c (nI a)) es_uu ⟨vp_in_nI (by omega) (by decide), nm_r (e' := upd oi c (nI i)) es_uu ?_⟩⟩⟩
    rw [hec]
    exact hx
  · exact ex_hasRoom0 (n := 1) hc (by omega) room (br_t rfl (h2 z room))
end
