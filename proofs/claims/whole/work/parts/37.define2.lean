section
variable {x_records x_removedCount x_flushed x_drafted x_height x_time x_foundAt : Int32} {x_recordStream x_recordType x_recordVersion x_recordValue x_originProjection x_originPosition x_originInstruction x_joined x_removed x_eventCount x_cutLevel x_draftType x_draftValue x_ops x_arguments x_programLength x_states x_noted x_stack x_metHeight x_groupType x_cursor x_keptCursor x_parked x_rowCount x_rowPosition x_rowTimes x_rowDue : Nat → Int32} {y_count y_flushed y_calls y_drafted y_top y_time : Int32} {y_isCut y_removed y_stream y_type y_from y_by y_value y_version y_on y_call y_draftType y_draftValue y_op y_with y_length y_height y_torn y_stack y_position y_cells y_noted y_wanted y_formed y_cursor y_parked y_where y_often y_due y_many y_found : Nat → Int32} {c f q : Nat} {cut rm str ty fr byi val ver onn call oi jn ec cl : Nat → Int32} {d : Nat} {L : Nat → Nat}
theorem es_St_def {st xn po ce yn : Nat → Int32} {p n : Nat} (H : es_St c f L st xn po ce yn) (hp : p < 3) (hfc : f ≤ c) :
    es_St c f (fun m => if m = 3 then 0 else if m = p then n else L m) (es_cpy (upd (es_fl st 0 (11 * p) 11) (11 * p + 10) (nI f)) (11 * (3 + p)) (11 * p) 11) (upd xn p 0) (upd (upd po p (nI f)) (3 + p) (nI f)) (es_cpy (es_fl ce 0 (10 * p) 10) (10 * (3 + p)) (10 * p) 10) (upd yn p 0) := by
  intro m hm hl
  by_cases e : m = p
  · subst e
    refine ⟨⟨⟨f, hfc, ?_, ?_⟩, fun k hk => ?_⟩, ⟨⟨f, Nat.le_refl f, ?_, pk_us⟩, fun k hk => ?_⟩, ?_, fun z => absurd pk_us z⟩
    · rw [es_cpy_o (by omega), pk_us]
    · rw [pk_un (by omega), pk_us]
    · rw [es_cpy_o (by omega), es_cpy_o (by omega), pk_un (by omega), es_fl_i (by omega), es_fl_i hk]
    · rw [es_cpy_i (by omega), pk_us]
    · rw [es_cpy_i (by omega), es_cpy_i hk, pk_un (by omega), es_fl_i (by omega), es_fl_i hk]
    · rw [pk_us, pk_us]
  · have hl' : 0 < L m := by
      simp only [if_neg (show ¬ m = 3 by omega), if_neg e] at hl
      exact hl
    obtain ⟨a1, a2, a3, a4⟩ := H m hm hl'
    have fr : ∀ b r, r ≠ p → r ≠ 3 + p → es_Eq b st po ce r → es_Eq b (es_cpy (upd (es_fl st 0 (11 * p) 11) (11 * p + 10) (nI f)) (11 * (3 + p)) (11 * p) 11) (upd (upd po p (nI f)) (3 + p) (nI f)) (es_cpy (es_fl ce 0 (10 * p) 10) (10 * (3 + p)) (10 * p) 10) r := by
      intro b r h1 h2 hE
      refine es_Eq_c hE (fun k hk => ?_) ?_ (fun k hk => ?_)
      · rw [es_cpy_o (by omega), pk_un (by omega), es_fl_o (by omega)]
      · rw [pk_un h2, pk_un h1]
      · rw [es_cpy_o (by omega), es_fl_o (by omega)]
    refine ⟨fr _ _ (by omega) (by omega) a1, fr _ _ (by omega) (by omega) a2, ?_, fun z => ?_⟩
    · rw [pk_un e, pk_un e]; exact a3
    · rw [pk_un e] at z
      exact fr _ _ (by omega) (by omega) (a4 z)
theorem i_vc_define {k : Nat} {u : SX} {v : SY} (I : i_Rel k u v) (hk : k + 4 ≤ 2048) (v1 : Int32) : wpX_define (fun r u' => wpY_define (fun r' v' => r' = r ∧ i_Rel (k + 4) u' v') v v1) u v1 := by
  obtain ⟨x_records, x_removedCount, x_flushed, x_drafted, x_height, x_time, x_foundAt, x_recordStream, x_recordType, x_recordVersion, x_recordValue, x_originProjection, x_originPosition, x_originInstruction, x_joined, x_removed, x_eventCount, x_cutLevel, x_draftType, x_draftValue, x_ops, x_arguments, x_programLength, x_states, x_noted, x_stack, x_metHeight, x_groupType, x_cursor, x_keptCursor, x_parked, x_rowCount, x_rowPosition, x_rowTimes, x_rowDue⟩ := u
  obtain ⟨y_count, y_flushed, y_calls, y_drafted, y_top, y_time, y_isCut, y_removed, y_stream, y_type, y_from, y_by, y_value, y_version, y_on, y_call, y_draftType, y_draftValue, y_op, y_with, y_length, y_height, y_torn, y_stack, y_position, y_cells, y_noted, y_wanted, y_formed, y_cursor, y_parked, y_where, y_often, y_due, y_many, y_found⟩ := v
  have J := i_up I
  obtain ⟨q, hq, c, f, d, L, hL, hD, hP, hS, hG, hF⟩ := I
  have hfc : f ≤ c := hL.2.2.2.2.2.2.2.2.2.2.2.2.2.1.2.1
  have hL0 := hL
  have hf1 := hL.2.2.1
  have hf2 := hL.2.2.2.1
  subst hf1 hf2
  obtain ⟨rfl, hlen, hop, ho3, hok⟩ := hP
  have h3 := hlen 3
  unfold wpX_define
  rcases es_rg v1 3 (by decide) with h | ⟨p, hp, rfl⟩
  · refine ex_isProj0 h (br_t rfl ?_)
    unfold wpY_define
    exact ey_outT 3 rfl h (br_f (by decide) ⟨rfl, J⟩)
  · refine ex_isProj1 hp (br_f (by decide) ?_)
    by_cases n0 : L 3 = 0
    · have z3 : y_length 3 = 0 := by rw [h3.1, n0]; rfl
      refine br_t z3 ?_
      unfold wpY_define
      exact ey_outF 3 p rfl (by decide) hp (br_t rfl (br_t z3 ⟨rfl, J⟩))
    · have z3 : ¬ y_length 3 = 0 := by rw [h3.1]; exact fun z => n0 ((es_eq0 (by omega)).mp z)
      obtain ⟨o, M', he', to', k1, k2, hX, hY⟩ := em_faulty (n := L 3) (by omega) h3.2 h3.1 h3.1 (fun i hi => hop 3 i (by omega) hi) ho3
      refine br_f z3 (hX _ ?_)
      cases o with
      | none =>
        refine br_t rfl (ex_install hp (nm_e (br_t rfl ?_)))
        unfold wpY_define
        refine ey_outF 3 p rfl (by decide) hp (br_t rfl (br_f z3 (hY _ (nm_r h3.1 (nm_r (e' := upd y_length 3 0) (by rw [es_nb_0]) (br_t (show (-1 : Int32) < 0 by decide) ⟨vp_in_nI (by omega) (by decide), nm_r (e' := upd (upd y_length 3 0) p (nI (L 3))) ?_ (ey_def hp h3.2 ho3 ⟨rfl, ?_⟩)⟩))))))
        · rw [nI_clamp (by omega), (es_nar (L 3) (by omega)).2, (es_nar (L 3) (by omega)).1]
        · rw [es_upc (by omega : (3 : Nat) ≠ p), h3.1]
          refine ⟨q, by omega, c, f, d, fun m => if m = 3 then 0 else if m = p then L 3 else L m, hL0, hD, ⟨rfl, fun m => ?_, fun m i hm hi => ?_, fun i hi => ?_, fun m hm => ?_⟩, es_St_def hS hp hfc, hG, hF⟩
          · by_cases e : m = 3
            · rw [e, pk_us]; simp only [if_pos]; exact ⟨rfl, Nat.zero_le 14⟩
            · rw [pk_un e]
              by_cases e2 : m = p
              · rw [e2, pk_us]; simp only [if_neg (show ¬ p = 3 by omega), if_pos]; exact ⟨trivial, h3.2⟩
              · rw [pk_un e2]; simp only [if_neg e, if_neg e2]; exact hlen m
          · by_cases e : m = 3
            · simp only [if_pos e] at hi; exact absurd hi (Nat.not_lt_zero _)
            · by_cases e2 : m = p
              · subst e2
                simp only [if_neg e, if_pos] at hi
                rw [es_cpy_i (by omega), es_cpy_i (by omega), es_cpy_i (by omega), es_cpy_i (by omega)]
                exact hop 3 i (by omega) hi
              · simp only [if_neg e, if_neg e2] at hi
                have := (hlen m).2
                rw [es_cpy_o (by omega), es_cpy_o (by omega), es_cpy_o (by omega), es_cpy_o (by omega)]
                exact hop m i hm hi
          · simp only [if_pos] at hi; exact absurd hi (Nat.not_lt_zero _)
          · by_cases e2 : m = p
            · subst e2
              simp only [if_neg (show ¬ m = 3 by omega), if_pos]
              exact es_OK_c (k1 rfl) (fun i hi => ⟨es_cpy_i hi, es_cpy_i hi⟩)
            · simp only [if_neg (show ¬ m = 3 by omega), if_neg e2]
              have := (hlen m).2
              exact es_OK_c (hok m hm) (fun i hi => ⟨es_cpy_o (by omega), es_cpy_o (by omega)⟩)
      | some b =>
        have hb := k2 b rfl
        have n4 : ¬ es_ox (some b) = -4 := es_nm4 (by omega)
        refine br_f n4 (nm_e (br_f n4 ?_))
        unfold wpY_define
        refine ey_outF 3 p rfl (by decide) hp (br_t rfl (br_f z3 (hY _ (nm_r h3.1 (nm_r (e' := upd y_length 3 0) (by rw [es_nb_0]) (br_f (nI_pos (n := b) (by omega)) ⟨rfl, ?_⟩))))))
        refine ⟨q, by omega, c, f, d, fun m => if m = 3 then 0 else L m, hL0, hD, ⟨rfl, fun m => ?_, fun m i hm hi => ?_, fun i hi => ?_, fun m hm => ?_⟩, es_St_L hS (fun p hp => if_neg (by omega)), hG, hF⟩
        · by_cases w : m = 3
          · rw [w, pk_us]; simp only [if_pos]; exact ⟨rfl, Nat.zero_le 14⟩
          · rw [pk_un w]; simp only [if_neg w]; exact hlen m
        · by_cases w : m = 3
          · simp only [if_pos w] at hi; exact absurd hi (Nat.not_lt_zero _)
          · simp only [if_neg w] at hi; exact hop m i hm hi
        · simp only [if_pos] at hi; exact absurd hi (Nat.not_lt_zero _)
        · simp only [if_neg (show ¬ m = 3 by omega)]; exact hok m hm
end
