section
/-! crash: the pieces -/
variable {x_records x_removedCount x_flushed x_drafted x_height x_time x_foundAt : Int32} {x_recordStream x_recordType x_recordVersion x_recordValue x_originProjection x_originPosition x_originInstruction x_joined x_removed x_eventCount x_cutLevel x_draftType x_draftValue x_ops x_arguments x_programLength x_states x_noted x_stack x_metHeight x_groupType x_cursor x_keptCursor x_parked x_rowCount x_rowPosition x_rowTimes x_rowDue : Nat → Int32} {y_count y_flushed y_calls y_drafted y_top y_time : Int32} {y_isCut y_removed y_stream y_type y_from y_by y_value y_version y_on y_call y_draftType y_draftValue y_op y_with y_length y_height y_torn y_stack y_position y_cells y_noted y_wanted y_formed y_cursor y_parked y_where y_often y_due y_many y_found : Nat → Int32} {c f q : Nat} {cut rm str ty fr byi val ver onn call oi jn ec cl : Nat → Int32} {d : Nat} {L : Nat → Nat} {g nt nw nk u k : Nat}
theorem em_sp (H : es_Log c f q cut rm str ty fr byi val ver onn call oi jn ec cl) : ∀ m, f + m < c → ∃ e, f ≤ e ∧ e ≤ c ∧ (∀ post : Int32 → Prop, post (nI e) → wX_sparedEnd_25 post (nI c) x_removedCount (nI f) x_drafted x_height x_time x_foundAt str (es_T cut ty) (es_V cut ver val) (es_W cut val) fr onn oi jn rm ec cl x_draftType x_draftValue x_ops x_arguments x_programLength x_states x_noted x_stack x_metHeight x_groupType x_cursor x_keptCursor x_parked x_rowCount x_rowPosition x_rowTimes x_rowDue (m + 1) (nI (f + m))) ∧ (∀ post : Int32 → SY → Prop, wY_crash_72 post (nI e) (nI c) (nI f) (nI q) y_drafted y_top y_time cut rm str ty fr byi val ver onn call y_draftType y_draftValue y_op y_with y_length y_height y_torn y_stack y_position y_cells y_noted y_wanted y_formed y_cursor y_parked y_where y_often y_due y_many y_found → wY_crash_33 post (nI c) (nI f) (nI q) y_drafted y_top y_time cut rm str ty fr byi val ver onn call y_draftType y_draftValue y_op y_with y_length y_height y_torn y_stack y_position y_cells y_noted y_wanted y_formed y_cursor y_parked y_where y_often y_due y_many y_found (m + 1) (nI (f + m))) := by
  have hc := H.1.1
  intro m
  induction m with
  | zero =>
    intro hm
    exact ⟨f, Nat.le_refl f, by omega, fun post hp => br_t (Int32.le_refl _) hp, fun post hp => br_t (Int32.le_refl _) hp⟩
  | succ m ih =>
    intro hm
    have n1 : ¬ nI (f + (m + 1)) ≤ nI f := nI_ge (by omega) (by omega)
    have n2 : ¬ nI c ≤ nI (f + (m + 1)) := nI_ge (by omega) (by omega)
    have v1 : vp_in (nI (f + (m + 1))) 2000 := vp_in_nI (by omega) (by decide)
    have c1 : (nI (f + (m + 1))).toNatClampNeg = f + m + 1 := nI_clamp (n := f + (m + 1)) (by omega)
    have e1 : nI (f + (m + 1)) - 1 = nI (f + m) := nI_pred (f + m)
    have v2 : vp_in (nI (f + (m + 1)) - 1) 2000 := by rw [e1]; exact vp_in_nI (by omega) (by decide)
    have c2 : (nI (f + (m + 1)) - 1).toNatClampNeg = f + m := by rw [e1, nI_clamp (by omega)]
    have hj := H.2.2.2.2.2.2.2.2.2 (f + m) (by omega)
    by_cases z : jn (f + m + 1) = 0
    · refine ⟨f + (m + 1), by omega, by omega, fun post hp => br_f n1 ⟨v1, br_t ?_ hp⟩, fun post hp => br_f n1 (br_f n2 ⟨v2, v1, br_f ?_ hp⟩)⟩
      · rw [c1]; exact z
      · rw [c2, c1]; exact hj.mp z
    · obtain ⟨e, h1, h2, hX, hY⟩ := ih (by omega)
      refine ⟨e, h1, h2, fun post hp => br_f n1 ⟨v1, br_f ?_ (nm_r (pk_m1 (f + m)) (hX post hp))⟩, fun post hp => br_f n1 (br_f n2 ⟨v2, v1, br_t ?_ (nm_r (pk_m1 (f + m)) (hY post hp))⟩)⟩
      · rw [c1]; exact z
      · rw [c2, c1]
        exact Classical.byContradiction (fun w => z (hj.mpr w))
theorem em_spared (H : es_Log c f q cut rm str ty fr byi val ver onn call oi jn ec cl) {v1 : Int32} (hv : 0 ≤ v1) : ∃ e, f ≤ e ∧ e ≤ c ∧ (∀ post : Int32 → Prop, post (nI e) → wpX_sparedEnd post (nI c, x_removedCount, nI f, x_drafted, x_height, x_time, x_foundAt, str, es_T cut ty, es_V cut ver val, es_W cut val, fr, onn, oi, jn, rm, ec, cl, x_draftType, x_draftValue, x_ops, x_arguments, x_programLength, x_states, x_noted, x_stack, x_metHeight, x_groupType, x_cursor, x_keptCursor, x_parked, x_rowCount, x_rowPosition, x_rowTimes, x_rowDue) v1) ∧ (∀ post : Int32 → SY → Prop, wY_crash_72 post (nI e) (nI c) (nI f) (nI q) y_drafted y_top y_time cut rm str ty fr byi val ver onn call y_draftType y_draftValue y_op y_with y_length y_height y_torn y_stack y_position y_cells y_noted y_wanted y_formed y_cursor y_parked y_where y_often y_due y_many y_found → wpY_crash post (nI c, nI f, nI q, y_drafted, y_top, y_time, cut, rm, str, ty, fr, byi, val, ver, onn, call, y_draftType, y_draftValue, y_op, y_with, y_length, y_height, y_torn, y_stack, y_position, y_cells, y_noted, y_wanted, y_formed, y_cursor, y_parked, y_where, y_often, y_due, y_many, y_found) v1) := by
  have hc := H.1.1
  have hfc := H.1.2.1
  obtain ⟨j, hj, rfl⟩ := nI_of (x := v1) (fun w => es_ltirr (es_lelt hv w))
  have es : nI c - nI f = nI (c - f) := pk_sub hfc
  by_cases z : j < c - f
  · obtain ⟨e, h1, h2, hX, hY⟩ := em_sp H j (by omega)
    refine ⟨e, h1, h2, fun post hp => br_t ?_ (nm_r (nI_add f j) ⟨_, hX post hp⟩), fun post hp => br_t hv (br_f ?_ (nm_r (nI_add f j) ⟨_, hY post hp⟩))⟩
    · rw [es]; exact nI_lt z (by omega)
    · rw [es]; exact nI_ge z (by omega)
  · refine ⟨c, hfc, Nat.le_refl c, fun post hp => br_f ?_ hp, fun post hp => br_t hv (br_t ?_ ⟨1, ?_⟩)⟩
    · rw [es]; exact nI_nlt (by omega) hj
    · rw [es]; exact nI_le (by omega) hj
    · by_cases w : nI c ≤ nI f
      · exact br_t w hp
      · exact br_f w (br_t (Int32.le_refl _) hp)
theorem ex_lose {pst : SX → Prop} {e : Nat} (H : es_Log c f q cut rm str ty fr byi val ver onn call oi jn ec cl) (h1 : f ≤ e) (h2 : e ≤ c)
    (hp : ∀ ec' cl', (∀ s, s < 5 → ec' s = nI (es_ev cut str (nI s) e)) → (∀ s, s < 5 → cl' s = es_cm cut str val (nI s) e) → pst (nI e, x_removedCount, nI f, x_drafted, x_height, x_time, x_foundAt, str, es_T cut ty, es_V cut ver val, es_W cut val, fr, onn, oi, jn, rm, ec', cl', x_draftType, x_draftValue, x_ops, x_arguments, x_programLength, x_states, x_noted, x_stack, x_metHeight, x_groupType, x_cursor, x_keptCursor, x_parked, x_rowCount, x_rowPosition, x_rowTimes, x_rowDue)) : wpX_loseLast pst (nI c, x_removedCount, nI f, x_drafted, x_height, x_time, x_foundAt, str, es_T cut ty, es_V cut ver val, es_W cut val, fr, onn, oi, jn, rm, ec, cl, x_draftType, x_draftValue, x_ops, x_arguments, x_programLength, x_states, x_noted, x_stack, x_metHeight, x_groupType, x_cursor, x_keptCursor, x_parked, x_rowCount, x_rowPosition, x_rowTimes, x_rowDue) (nI (c - e)) := by
  have hc := H.1.1
  have ht : ∀ i, ¬ ty i = -1 := fun i => by
    obtain ⟨t, ht, e⟩ := H.2.2.1 i
    rw [e]; exact es_nm1 (by omega)
  have key : ∃ n, wX_loseLast_2 pst (nI (c - e)) x_removedCount (nI f) x_drafted x_height x_time x_foundAt n (nI 0) (nI (c - 0)) str (es_T cut ty) (es_V cut ver val) (es_W cut val) fr onn oi jn rm ec cl x_draftType x_draftValue x_ops x_arguments x_programLength x_states x_noted x_stack x_metHeight x_groupType x_cursor x_keptCursor x_parked x_rowCount x_rowPosition x_rowTimes x_rowDue := by
    refine pk_loop (fun n i s => wX_loseLast_2 pst (nI (c - e)) x_removedCount (nI f) x_drafted x_height x_time x_foundAt n (nI i) (nI (c - i)) str (es_T cut ty) (es_V cut ver val) (es_W cut val) fr onn oi jn rm s cl x_draftType x_draftValue x_ops x_arguments x_programLength x_states x_noted x_stack x_metHeight x_groupType x_cursor x_keptCursor x_parked x_rowCount x_rowPosition x_rowTimes x_rowDue) (fun i s => ∀ s', s' < 5 → s s' = nI (es_ev cut str (nI s') (c - i))) (c - e) 0 ec (by omega) (fun s hs => H.2.2.2.2.2.1 s hs) ?_ ?_
    · intro n s hs
      rw [show c - (c - e) = e by omega] at hs ⊢
      refine br_t (Int32.le_refl _) ?_
      refine loop_0 (fun n i s2 => wX_loseLast_56 pst (nI e) x_removedCount (nI f) x_drafted x_height x_time x_foundAt n (nI i) str (es_T cut ty) (es_V cut ver val) (es_W cut val) fr onn oi jn rm s s2 x_draftType x_draftValue x_ops x_arguments x_programLength x_states x_noted x_stack x_metHeight x_groupType x_cursor x_keptCursor x_parked x_rowCount x_rowPosition x_rowTimes x_rowDue) (fun i s2 => ∀ s', s' < i → s2 s' = es_cm cut str val (nI s') e) 5 cl (fun s h => absurd h (Nat.not_lt_zero _)) ?_ ?_
      · intro n s2 hs2
        exact br_t (by decide) (hp s s2 hs hs2)
      · intro n i s2 hi hs2 ih
        refine br_f (nI_ge (b := 5) hi (by decide)) (ex_cutLevelBelow (by omega) ht ⟨vp_in_nI hi (by decide), nm_r (e' := upd s2 i (es_cm cut str val (nI i) e)) (by rw [nI_clamp (by omega)]) (nm_r (nI_1 _) (ih _ (fun s' hs' => ?_)))⟩)
        by_cases z : s' = i
        · rw [z, pk_us]
        · rw [pk_un z]; exact hs2 s' (by omega)
    · intro n i s hi hs ih
      have er : nI (c - i) - 1 = nI (c - (i + 1)) := by rw [es_s1 (by omega)]; congr 1
      have hr : c - i = c - (i + 1) + 1 := by omega
      have cr : (nI (c - (i + 1))).toNatClampNeg = c - (i + 1) := nI_clamp (by omega)
      have vr : vp_in (nI (c - (i + 1))) 2000 := vp_in_nI (by omega) (by decide)
      rw [hr] at hs
      generalize c - (i + 1) = r at *
      refine br_f (nI_ge hi (by omega)) (nm_r er ⟨vr, ?_⟩)
      rw [cr]
      refine br_c (fun z => nm_r (nI_1 _) (ih s (fun s' hs' => ?_))) (fun z => ?_)
      · rw [hs s' hs', es_ev_s, if_neg (fun w => (es_Tc (ht r)).mp z w.1)]
      · have hcut : cut r = 0 := Classical.byContradiction (fun w => z ((es_Tc (ht r)).mpr w))
        obtain ⟨t, ht5, et⟩ := H.2.1 r
        have vt : vp_in (str r) 5 := by rw [et]; exact vp_in_nI ht5 (by decide)
        have ct : (str r).toNatClampNeg = t := by rw [et, nI_clamp (by omega)]
        rw [ct]
        refine ⟨vr, vt, vt, nm_e (nm_r (nI_1 _) (ih _ (fun s' hs' => ?_)))⟩
        have := hs s' hs'
        rw [es_ev_s] at this
        by_cases w : s' = t
        · subst w
          rw [pk_us, this, if_pos ⟨hcut, et⟩]
          exact nI_pred _
        · rw [pk_un w, this, if_neg (fun y => w (es_inj (y.2.symm.trans et) (by omega) (by omega)))]
  exact key
/-! a group goes back to what it kept -/
theorem ex_restore {pst : SX → Prop} (hg : g < 2) (hk : x_rowCount (3 * g + 2) = nI nk) (h6 : nk ≤ 6)
    (hp : pst (x_records, x_removedCount, x_flushed, x_drafted, x_height, x_time, x_foundAt, x_recordStream, x_recordType, x_recordVersion, x_recordValue, x_originProjection, x_originPosition, x_originInstruction, x_joined, x_removed, x_eventCount, x_cutLevel, x_draftType, x_draftValue, x_ops, x_arguments, x_programLength, x_states, x_noted, x_stack, x_metHeight, x_groupType, upd x_cursor g (x_keptCursor g), x_keptCursor, x_parked, upd (upd x_rowCount (3 * g) 0) (3 * g + 1) (nI nk), es_cpy x_rowPosition (18 * g + 6) (18 * g + 12) nk, es_cpy x_rowTimes (18 * g + 6) (18 * g + 12) nk, x_rowDue)) : wpX_restoreGroup pst (x_records, x_removedCount, x_flushed, x_drafted, x_height, x_time, x_foundAt, x_recordStream, x_recordType, x_recordVersion, x_recordValue, x_originProjection, x_originPosition, x_originInstruction, x_joined, x_removed, x_eventCount, x_cutLevel, x_draftType, x_draftValue, x_ops, x_arguments, x_programLength, x_states, x_noted, x_stack, x_metHeight, x_groupType, x_cursor, x_keptCursor, x_parked, x_rowCount, x_rowPosition, x_rowTimes, x_rowDue) (nI g) := by
  have cg : (nI g).toNatClampNeg = g := nI_clamp (by omega)
  have vg : vp_in (nI g) 2 := vp_in_nI hg (by decide)
  have c3 : (nI g * 3 + 0).toNatClampNeg = 3 * g := by rw [es_g3, nI_clamp (by omega)]
  have v3 : vp_in (nI g * 3 + 0) 6 := by rw [es_g3]; exact vp_in_nI (by omega) (by decide)
  have c31 : (nI (3 * g + 1)).toNatClampNeg = 3 * g + 1 := nI_clamp (by omega)
  have v31 : vp_in (nI (3 * g + 1)) 6 := vp_in_nI (by omega) (by decide)
  have c32 : (nI (3 * g + 2)).toNatClampNeg = 3 * g + 2 := nI_clamp (by omega)
  have v32 : vp_in (nI (3 * g + 2)) 6 := vp_in_nI (by omega) (by decide)
  refine nm_r (es_g31 g) (nm_r (es_g32 g) ⟨vg, vg, nm_r (e' := upd x_cursor g (x_keptCursor g)) (by rw [cg]) ⟨v3, nm_r (e' := upd x_rowCount (3 * g) 0) (by rw [c3]) ⟨v31, nm_r (e' := upd (upd x_rowCount (3 * g) 0) (3 * g + 1) (nI 0)) (by rw [c31]; rfl) ?_⟩⟩⟩)
  refine loop_0 (fun n i (s : (Nat → Int32) × (Nat → Int32) × (Nat → Int32)) => wX_restoreGroup_45 pst (nI (3 * g + 1)) (nI (3 * g + 2)) n (nI i) x_records x_removedCount x_flushed x_drafted x_height x_time x_foundAt x_recordStream x_recordType x_recordVersion x_recordValue x_originProjection x_originPosition x_originInstruction x_joined x_removed x_eventCount x_cutLevel x_draftType x_draftValue x_ops x_arguments x_programLength x_states x_noted x_stack x_metHeight x_groupType (upd x_cursor g (x_keptCursor g)) x_keptCursor x_parked s.1 s.2.1 s.2.2 x_rowDue)
    (fun i s => s = (upd (upd x_rowCount (3 * g) 0) (3 * g + 1) (nI i), es_cpy x_rowPosition (18 * g + 6) (18 * g + 12) i, es_cpy x_rowTimes (18 * g + 6) (18 * g + 12) i)) nk (upd (upd x_rowCount (3 * g) 0) (3 * g + 1) (nI 0), x_rowPosition, x_rowTimes) (by rw [es_cpy_0, es_cpy_0]) ?_ ?_
  · intro n s hs
    subst hs
    refine ⟨v32, br_t ?_ hp⟩
    rw [c32]; dsimp only; rw [pk_un (by omega), pk_un (by omega), hk]; exact Int32.le_refl _
  · intro n i s hi hs ih
    subst hs
    refine ⟨v32, br_f ?_ ?_⟩
    · rw [c32]; dsimp only; rw [pk_un (by omega), pk_un (by omega), hk]; exact nI_ge hi (by omega)
    · have c1 : (nI (3 * g + 2) * 6 + nI i).toNatClampNeg = 18 * g + 12 + i := by rw [es_6, nI_add, nI_clamp (by omega)]; omega
      have v1 : vp_in (nI (3 * g + 2) * 6 + nI i) 36 := by rw [es_6, nI_add]; exact vp_in_nI (by omega) (by decide)
      rw [c1]
      refine ⟨v1, v1, ex_insert (b := 18 * g + 6) (w := i) (by omega) (by omega) pk_us (Nat.le_refl i) (by omega) (nm_r (nI_1 _) ?_)⟩
      rw [es_ins_0 (Nat.le_refl _), es_ins_0 (Nat.le_refl _)]
      have h := ih (upd (upd x_rowCount (3 * g) 0) (3 * g + 1) (nI (i + 1)), es_cpy x_rowPosition (18 * g + 6) (18 * g + 12) (i + 1), es_cpy x_rowTimes (18 * g + 6) (18 * g + 12) (i + 1)) rfl
      rw [← es_cpy_s (by omega), ← es_cpy_s (by omega)] at h
      rw [es_uu]
      exact h
theorem es_Grp_rs {cu kc rn rp rt rd cv mn wh oft du : Nat → Int32} (H : es_Grp c f g nt nw nk u k cu kc rn rp rt rd cv mn wh oft du) (hg : g < 2) (hfc : f ≤ c) :
    es_Grp c f g 0 nk nk k k (upd cu g (kc g)) kc (upd (upd rn (3 * g) 0) (3 * g + 1) (nI nk)) (es_cpy rp (18 * g + 6) (18 * g + 12) nk) (es_cpy rt (18 * g + 6) (18 * g + 12) nk) rd
      (upd cv g (cv (2 + g))) (upd (upd mn g 0) (2 + g) (nI nk)) (es_cpy wh (16 + 8 * g) (32 + 8 * g) 8) (es_cpy oft (16 + 8 * g) (32 + 8 * g) 8) du := by
  obtain ⟨a0, a1, a2, a3, a4, a5, a6, a7, a8, a9, a10⟩ := H
  refine ⟨⟨by omega, a0.2.1, by omega, a0.2.2.2⟩, ⟨pk_us.trans a1.2.2.1, pk_us.trans a1.2.2.2, a1.2.2.1, ?_⟩, ⟨?_, ?_, pk_us, pk_us, ?_, ?_⟩, fun i h => absurd h (Nat.not_lt_zero _), fun i h => absurd h (Nat.not_lt_zero _), fun i hi => ?_, fun i hi => ?_, fun i j h => absurd h (Nat.not_lt_zero _), fun i j hi hj e => ?_, fun i j h => absurd h (Nat.not_lt_zero _), fun i j hi hj => ?_⟩
  · rw [pk_un (by omega)]; exact a1.2.2.2
  · rw [pk_un (by omega), pk_us]; rfl
  · rw [pk_un (by omega), pk_us]; rfl
  · rw [pk_un (by omega), pk_un (by omega)]; exact a2.2.2.2.2.1
  · rw [pk_un (by omega), pk_un (by omega)]; exact a2.2.2.2.2.2
  · rw [es_cpy_i hi, es_cpy_i hi, es_cpy_i (by omega), es_cpy_i (by omega)]
    exact a6 i hi
  · rw [es_cpy_o (by omega), es_cpy_o (by omega), es_cpy_o (by omega), es_cpy_o (by omega)]
    exact a6 i hi
  · rw [es_cpy_i hi, es_cpy_i hj] at e
    rcases Nat.lt_trichotomy i j with h | h | h
    · exact absurd e (es_ltne (a10 i j h hj))
    · exact h
    · exact absurd e.symm (es_ltne (a10 j i h hi))
  · rw [es_cpy_o (by omega), es_cpy_o (by omega)]
    exact a10 i j hi hj
theorem ey_cr1 {post : Int32 → SY → Prop} {x3 : Int32} {n : Nat} (hg : g < 2) (hk : y_many (4 + g) = nI nk) (h6 : nk ≤ 6)
    (hp : wY_crash_137 post x3 y_count y_flushed y_calls y_drafted y_top y_time n (nI (g + 1)) y_isCut y_removed y_stream y_type y_from y_by y_value y_version y_on y_call y_draftType y_draftValue y_op y_with y_length y_height y_torn y_stack y_position y_cells y_noted y_wanted y_formed (upd y_cursor g (y_cursor (2 + g))) y_parked (es_cpy y_where (16 + 8 * g) (32 + 8 * g) 8) (es_cpy y_often (16 + 8 * g) (32 + 8 * g) 8) y_due (upd (upd y_many g 0) (2 + g) (nI nk)) y_found) : wY_crash_137 post x3 y_count y_flushed y_calls y_drafted y_top y_time (n + 1) (nI g) y_isCut y_removed y_stream y_type y_from y_by y_value y_version y_on y_call y_draftType y_draftValue y_op y_with y_length y_height y_torn y_stack y_position y_cells y_noted y_wanted y_formed y_cursor y_parked y_where y_often y_due y_many y_found := by
  have cg : (nI g).toNatClampNeg = g := nI_clamp (by omega)
  have c2 : (2 + nI g).toNatClampNeg = 2 + g := by rw [es_2g, nI_clamp (by omega)]
  have c4 : (4 + nI g).toNatClampNeg = 4 + g := by rw [es_4g, nI_clamp (by omega)]
  have v24 : vp_in (2 + nI g) 4 := by rw [es_2g]; exact vp_in_nI (by omega) (by decide)
  have v26 : vp_in (2 + nI g) 6 := by rw [es_2g]; exact vp_in_nI (by omega) (by decide)
  have v46 : vp_in (4 + nI g) 6 := by rw [es_4g]; exact vp_in_nI (by omega) (by decide)
  refine br_f (nI_ge (b := 2) hg (by decide)) ⟨v24, vp_in_nI (by omega) (by decide), nm_r (e' := upd y_cursor g (y_cursor (2 + g))) (by rw [cg, c2]) ⟨vp_in_nI (by omega) (by decide), nm_r (e' := upd y_many g 0) (by rw [cg, es_nb_0]) ⟨v46, v26, nm_r (e' := upd (upd y_many g 0) (2 + g) (nI nk)) ?_ ?_⟩⟩⟩
  · rw [c2, c4, pk_un (by omega), hk, (es_nar nk (by omega)).1]
  · have e16 : ∀ i, 16 + 8 * nI g + nI i = nI (16 + 8 * g + i) := fun i => by rw [es_8, show (16 : Int32) = nI 16 from rfl, nI_add, nI_add]
    have e32 : ∀ i, 32 + 8 * nI g + nI i = nI (32 + 8 * g + i) := fun i => by rw [es_8, show (32 : Int32) = nI 32 from rfl, nI_add, nI_add]
    refine loop_0 (fun m i (s : (Nat → Int32) × (Nat → Int32)) => wY_crash_188 post ((wY_crash_137 post x3 y_count y_flushed y_calls y_drafted y_top y_time n)) x3 (nI g) y_count y_flushed y_calls y_drafted y_top y_time m (nI i) y_isCut y_removed y_stream y_type y_from y_by y_value y_version y_on y_call y_draftType y_draftValue y_op y_with y_length y_height y_torn y_stack y_position y_cells y_noted y_wanted y_formed (upd y_cursor g (y_cursor (2 + g))) y_parked s.1 s.2 y_due (upd (upd y_many g 0) (2 + g) (nI nk)) y_found)
      (fun i s => s = (es_cpy y_where (16 + 8 * g) (32 + 8 * g) i, es_cpy y_often (16 + 8 * g) (32 + 8 * g) i)) 8 (y_where, y_often) (by rw [es_cpy_0, es_cpy_0]) ?_ ?_
    · intro m s hs
      subst hs
      exact br_t (by decide) (nm_r (nI_1 _) hp)
    · intro m i s hi hs ih
      subst hs
      refine br_f (nI_ge (b := 8) hi (by decide)) ?_
      rw [e16, e32, nI_clamp (by omega), nI_clamp (by omega)]
      exact ⟨vp_in_nI (by omega) (by decide), vp_in_nI (by omega) (by decide), nm_r (es_cpy_s (by omega)) ⟨vp_in_nI (by omega) (by decide), vp_in_nI (by omega) (by decide), nm_r (es_cpy_s (by omega)) (nm_r (nI_1 _) (ih (_, _) rfl))⟩⟩
theorem ey_cr274 {post : Int32 → SY → Prop} {x3 : Int32} (hp : ∀ fd, (∀ w, w < 6 → fd w = 0) → post x3 (y_count, y_flushed, y_calls, y_drafted, y_top, y_time, y_isCut, y_removed, y_stream, y_type, y_from, y_by, y_value, y_version, y_on, y_call, y_draftType, y_draftValue, y_op, y_with, y_length, y_height, y_torn, y_stack, y_position, y_cells, y_noted, y_wanted, y_formed, y_cursor, y_parked, y_where, y_often, y_due, y_many, fd)) : ∃ n, wY_crash_274 post x3 y_count y_flushed y_calls y_drafted y_top y_time n 0 y_isCut y_removed y_stream y_type y_from y_by y_value y_version y_on y_call y_draftType y_draftValue y_op y_with y_length y_height y_torn y_stack y_position y_cells y_noted y_wanted y_formed y_cursor y_parked y_where y_often y_due y_many y_found := by
  refine loop_0 (fun n i s => wY_crash_274 post x3 y_count y_flushed y_calls y_drafted y_top y_time n (nI i) y_isCut y_removed y_stream y_type y_from y_by y_value y_version y_on y_call y_draftType y_draftValue y_op y_with y_length y_height y_torn y_stack y_position y_cells y_noted y_wanted y_formed y_cursor y_parked y_where y_often y_due y_many s) (fun i s => ∀ w, w < i → s w = 0) 6 y_found (fun w h => absurd h (Nat.not_lt_zero _)) ?_ ?_
  · intro n s hs
    exact br_t (by decide) (hp s hs)
  · intro n i s hi hs ih
    refine br_f (nI_ge (b := 6) hi (by decide)) ⟨vp_in_nI hi (by decide), nm_r (e' := upd s i 0) (by rw [nI_clamp (by omega)]) (nm_r (nI_1 _) (ih _ (fun w hw => ?_)))⟩
    by_cases e : w = i
    · rw [e, pk_us]
    · rw [pk_un e]; exact hs w (by omega)
end
