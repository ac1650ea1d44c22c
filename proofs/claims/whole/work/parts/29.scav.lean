section
/-! scavenge -/
variable {x_records x_removedCount x_flushed x_drafted x_height x_time x_foundAt : Int32} {x_recordStream x_recordType x_recordVersion x_recordValue x_originProjection x_originPosition x_originInstruction x_joined x_removed x_eventCount x_cutLevel x_draftType x_draftValue x_ops x_arguments x_programLength x_states x_noted x_stack x_metHeight x_groupType x_cursor x_keptCursor x_parked x_rowCount x_rowPosition x_rowTimes x_rowDue : Nat → Int32} {y_count y_flushed y_calls y_drafted y_top y_time : Int32} {y_isCut y_removed y_stream y_type y_from y_by y_value y_version y_on y_call y_draftType y_draftValue y_op y_with y_length y_height y_torn y_stack y_position y_cells y_noted y_wanted y_formed y_cursor y_parked y_where y_often y_due y_many y_found : Nat → Int32} {c f q : Nat} {cut rm str ty fr byi val ver onn call oi jn ec cl : Nat → Int32} {d : Nat} {L : Nat → Nat}
/-- one record of the component's inner loop -/
theorem ex_scav65 {post : Int32 → SX → Prop} {J12 J31 : Int32 → Int32 → (Nat → Int32) → (Nat → Int32) → (Nat → Int32) → (Nat → Int32) → (Nat → Int32) → (Nat → Int32) → (Nat → Int32) → (Nat → Int32) → (Nat → Int32) → (Nat → Int32) → (Nat → Int32) → (Nat → Int32) → (Nat → Int32) → (Nat → Int32) → (Nat → Int32) → (Nat → Int32) → (Nat → Int32) → (Nat → Int32) → (Nat → Int32) → (Nat → Int32) → (Nat → Int32) → (Nat → Int32) → (Nat → Int32) → (Nat → Int32) → (Nat → Int32) → (Nat → Int32) → (Nat → Int32) → (Nat → Int32) → Prop} {i a : Nat} {x1 x2 x4 z0 : Int32} {r : Nat → Int32} (ha : a < c) (hc : c ≤ 2000) (hz : str a = nI i → (z0 = 0 ↔ ¬ es_go cut str val ver f a))
    (h1 : ¬ (str a = nI i ∧ es_go cut str val ver f a) → J31 (nI (a + 1)) (nI (es_rc r c)) str (es_T cut ty) (es_V cut ver val) (es_W cut val) fr onn oi jn r ec cl x_draftType x_draftValue x_ops x_arguments x_programLength x_states x_noted x_stack x_metHeight x_groupType x_cursor x_keptCursor x_parked x_rowCount x_rowPosition x_rowTimes x_rowDue) (h2 : (str a = nI i ∧ es_go cut str val ver f a) → ¬ r a = 0 → J31 (nI (a + 1)) (nI (es_rc r c)) str (es_T cut ty) (es_V cut ver val) (es_W cut val) fr onn oi jn r ec cl x_draftType x_draftValue x_ops x_arguments x_programLength x_states x_noted x_stack x_metHeight x_groupType x_cursor x_keptCursor x_parked x_rowCount x_rowPosition x_rowTimes x_rowDue) (h3 : (str a = nI i ∧ es_go cut str val ver f a) → r a = 0 → J31 (nI (a + 1)) (nI (es_rc (upd r a 1) c)) str (es_T cut ty) (es_V cut ver val) (es_W cut val) fr onn oi jn (upd r a 1) ec cl x_draftType x_draftValue x_ops x_arguments x_programLength x_states x_noted x_stack x_metHeight x_groupType x_cursor x_keptCursor x_parked x_rowCount x_rowPosition x_rowTimes x_rowDue) :
    wX_scavenge_65 post J12 J31 x1 x2 (nI i) x4 (nI a) z0 (nI c) (nI (es_rc r c)) (nI f) x_drafted x_height x_time x_foundAt str (es_T cut ty) (es_V cut ver val) (es_W cut val) fr onn oi jn r ec cl x_draftType x_draftValue x_ops x_arguments x_programLength x_states x_noted x_stack x_metHeight x_groupType x_cursor x_keptCursor x_parked x_rowCount x_rowPosition x_rowTimes x_rowDue := by
  have ca : (nI a).toNatClampNeg = a := nI_clamp (by omega)
  have va : vp_in (nI a) 2000 := vp_in_nI (by omega) (by decide)
  refine ⟨va, ?_⟩
  rw [ca]
  refine br_c (fun z => ⟨va, br_c (fun w => ?_) (fun w => ?_)⟩) (fun z => nm_r (nI_1 _) (h1 (fun y => z y.1)))
  · by_cases g : es_go cut str val ver f a
    · refine br_f (fun y => (hz z).mp y g) ⟨va, nm_r (e' := upd r a 1) (by rw [es_nb1]) (nm_r (e' := nI (es_rc (upd r a 1) c)) (by rw [es_rc_u w (by decide) c ha]; exact nI_1 _) (nm_r (nI_1 _) (h3 ⟨z, g⟩ w)))⟩
    · exact br_t ((hz z).mpr g) (nm_r (nI_1 _) (h1 (fun y => g y.2)))
  · by_cases g : es_go cut str val ver f a
    · exact nm_r (nI_1 _) (h2 ⟨z, g⟩ w)
    · exact nm_r (nI_1 _) (h1 (fun y => g y.2))
theorem ex_scav31 {post : Int32 → SX → Prop} {J12 : Int32 → Int32 → (Nat → Int32) → (Nat → Int32) → (Nat → Int32) → (Nat → Int32) → (Nat → Int32) → (Nat → Int32) → (Nat → Int32) → (Nat → Int32) → (Nat → Int32) → (Nat → Int32) → (Nat → Int32) → (Nat → Int32) → (Nat → Int32) → (Nat → Int32) → (Nat → Int32) → (Nat → Int32) → (Nat → Int32) → (Nat → Int32) → (Nat → Int32) → (Nat → Int32) → (Nat → Int32) → (Nat → Int32) → (Nat → Int32) → (Nat → Int32) → (Nat → Int32) → (Nat → Int32) → (Nat → Int32) → (Nat → Int32) → Prop} {i e : Nat} {x2 : Int32} {r0 : Nat → Int32} {P : Nat → Prop} (hec : e ≤ c) (hc : c ≤ 2000) (ht : ∀ i, ¬ ty i = -1) (h0 : es_Rm rm r0 P)
    (hp : ∀ r, es_Rm rm r (fun j => P j ∨ (j < e ∧ str j = nI i ∧ es_go cut str val ver f j)) → J12 (nI (i + 1)) (nI (es_rc r c)) str (es_T cut ty) (es_V cut ver val) (es_W cut val) fr onn oi jn r ec cl x_draftType x_draftValue x_ops x_arguments x_programLength x_states x_noted x_stack x_metHeight x_groupType x_cursor x_keptCursor x_parked x_rowCount x_rowPosition x_rowTimes x_rowDue) :
    ∃ n, wX_scavenge_31 post J12 (nI e) x2 (nI i) (es_cm cut str val (nI i) f) (nI c) (nI f) x_drafted x_height x_time x_foundAt n 0 (nI (es_rc r0 c)) str (es_T cut ty) (es_V cut ver val) (es_W cut val) fr onn oi jn r0 ec cl x_draftType x_draftValue x_ops x_arguments x_programLength x_states x_noted x_stack x_metHeight x_groupType x_cursor x_keptCursor x_parked x_rowCount x_rowPosition x_rowTimes x_rowDue := by
  refine loop_0 (fun n a r => wX_scavenge_31 post J12 (nI e) x2 (nI i) (es_cm cut str val (nI i) f) (nI c) (nI f) x_drafted x_height x_time x_foundAt n (nI a) (nI (es_rc r c)) str (es_T cut ty) (es_V cut ver val) (es_W cut val) fr onn oi jn r ec cl x_draftType x_draftValue x_ops x_arguments x_programLength x_states x_noted x_stack x_metHeight x_groupType x_cursor x_keptCursor x_parked x_rowCount x_rowPosition x_rowTimes x_rowDue) (fun a r => es_Rm rm r (fun j => P j ∨ (j < a ∧ str j = nI i ∧ es_go cut str val ver f j))) e r0 (es_Rm_i h0 (fun j => ⟨Or.inl, fun h => h.elim id (fun h => absurd h.1 (Nat.not_lt_zero _))⟩)) ?_ ?_
  · intro n r hr
    exact br_t (Int32.le_refl _) (nm_r (nI_1 _) (hp r hr))
  · intro n a r ha hr ih
    have ca : (nI a).toNatClampNeg = a := nI_clamp (by omega)
    have va : vp_in (nI a) 2000 := vp_in_nI (by omega) (by decide)
    have fin : ∀ z0 : Int32, (str a = nI i → (z0 = 0 ↔ ¬ es_go cut str val ver f a)) → wX_scavenge_65 post J12 ((wX_scavenge_31 post J12 (nI e) x2 (nI i) (es_cm cut str val (nI i) f) (nI c) (nI f) x_drafted x_height x_time x_foundAt n)) (nI e) x2 (nI i) (es_cm cut str val (nI i) f) (nI a) z0 (nI c) (nI (es_rc r c)) (nI f) x_drafted x_height x_time x_foundAt str (es_T cut ty) (es_V cut ver val) (es_W cut val) fr onn oi jn r ec cl x_draftType x_draftValue x_ops x_arguments x_programLength x_states x_noted x_stack x_metHeight x_groupType x_cursor x_keptCursor x_parked x_rowCount x_rowPosition x_rowTimes x_rowDue := by
      intro z0 hz
      refine ex_scav65 (by omega) hc hz (fun h => ih r (es_Rm_i hr (fun j => ?_))) (fun h w => ih r (es_Rm_g hr w (fun j => ?_))) (fun h w => ih (upd r a 1) (es_Rm_a hr (fun j => ?_)))
      · refine ⟨fun y => y.elim Or.inl (fun y => Or.inr ⟨by omega, y.2⟩), fun y => y.elim Or.inl (fun y => ?_)⟩
        by_cases e : j = a
        · subst e; exact absurd y.2 h
        · exact Or.inr ⟨by omega, y.2⟩
      · refine ⟨fun y => ?_, fun y => ?_⟩
        · rcases y with y | y
          · exact Or.inl (Or.inl y)
          · by_cases e : j = a
            · exact Or.inr e
            · exact Or.inl (Or.inr ⟨by omega, y.2⟩)
        · rcases y with (y | y) | y
          · exact Or.inl y
          · exact Or.inr ⟨by omega, y.2⟩
          · subst y; exact Or.inr ⟨by omega, h⟩
      · refine ⟨fun y => ?_, fun y => ?_⟩
        · rcases y with y | y
          · exact Or.inl (Or.inl y)
          · by_cases e : j = a
            · exact Or.inr e
            · exact Or.inl (Or.inr ⟨by omega, y.2⟩)
        · rcases y with (y | y) | y
          · exact Or.inl y
          · exact Or.inr ⟨by omega, y.2⟩
          · subst y; exact Or.inr ⟨by omega, h⟩
    refine br_f (nI_ge ha (by omega)) ⟨va, ?_⟩
    rw [ca]
    refine br_c (fun z => fin 1 (fun _ => ?_)) (fun z => ⟨va, ?_⟩)
    · have hcut := (es_Tc (ht a)).mp z
      exact ⟨fun w => absurd w (by decide), fun w => absurd (Or.inl hcut) w⟩
    · have hcut : cut a = 0 := Classical.byContradiction (fun w => z ((es_Tc (ht a)).mpr w))
      rw [es_V0 hcut]
      refine br_c (fun w => fin 0 (fun hs => ?_)) (fun w => fin 1 (fun hs => ?_))
      · refine ⟨fun _ g => ?_, fun _ => rfl⟩
        rcases g with g | g
        · exact g hcut
        · rw [hs] at g; exact es_ltirr (es_ltle g w)
      · refine ⟨fun y => absurd y (by decide), fun y => absurd (Or.inr ?_) y⟩
        rw [hs]; exact es_nle w
theorem ex_scav {post : Int32 → SX → Prop} {e : Nat} (H : es_Log c f q cut rm str ty fr byi val ver onn call oi jn ec cl) (he : e ≤ f)
    (hp : ∀ r, es_Rm rm r (fun j => j < e ∧ es_go cut str val ver f j) → post (nI (es_rc r c - es_rc rm c)) (nI c, nI (es_rc r c), nI f, x_drafted, x_height, x_time, x_foundAt, str, es_T cut ty, es_V cut ver val, es_W cut val, fr, onn, oi, jn, r, ec, cl, x_draftType, x_draftValue, x_ops, x_arguments, x_programLength, x_states, x_noted, x_stack, x_metHeight, x_groupType, x_cursor, x_keptCursor, x_parked, x_rowCount, x_rowPosition, x_rowTimes, x_rowDue)) :
    ∃ n, wX_scavenge_12 post (nI e) (nI (es_rc rm c)) (nI c) (nI f) x_drafted x_height x_time x_foundAt n 0 (nI (es_rc rm c)) str (es_T cut ty) (es_V cut ver val) (es_W cut val) fr onn oi jn rm ec cl x_draftType x_draftValue x_ops x_arguments x_programLength x_states x_noted x_stack x_metHeight x_groupType x_cursor x_keptCursor x_parked x_rowCount x_rowPosition x_rowTimes x_rowDue := by
  have hc := H.1.1
  have hfc := H.1.2.1
  have hst := H.2.1
  have ht : ∀ i, ¬ ty i = -1 := fun i => by
    obtain ⟨t, ht, e⟩ := H.2.2.1 i
    rw [e]; exact es_nm1 (by omega)
  refine loop_0 (fun n i r => wX_scavenge_12 post (nI e) (nI (es_rc rm c)) (nI c) (nI f) x_drafted x_height x_time x_foundAt n (nI i) (nI (es_rc r c)) str (es_T cut ty) (es_V cut ver val) (es_W cut val) fr onn oi jn r ec cl x_draftType x_draftValue x_ops x_arguments x_programLength x_states x_noted x_stack x_metHeight x_groupType x_cursor x_keptCursor x_parked x_rowCount x_rowPosition x_rowTimes x_rowDue) (fun i r => es_Rm rm r (fun j => ∃ s, s < i ∧ j < e ∧ str j = nI s ∧ es_go cut str val ver f j)) 5 rm (es_Rm_0 (fun j => (H.2.2.2.2.1 j).1) (fun j ⟨s, h, _⟩ => absurd h (Nat.not_lt_zero _))) ?_ ?_
  · intro n r hr
    have h := hp r (es_Rm_i hr (fun j => ⟨fun ⟨s, _, h1, _, h2⟩ => ⟨h1, h2⟩, fun h => by
      obtain ⟨s, hs, e⟩ := hst j
      exact ⟨s, hs, h.1, e, h.2⟩⟩))
    refine br_t (by decide) ?_
    rw [pk_sub (es_Rm_rc hr c)]
    exact h
  · intro n i r hi hr ih
    refine br_f (nI_ge (b := 5) hi (by decide)) (ex_cutLevelBelow (by omega) ht ?_)
    refine ex_scav31 (by omega) hc ht hr (fun r' hr' => ih r' (es_Rm_i hr' (fun j => ⟨fun y => ?_, fun y => ?_⟩)))
    · rcases y with ⟨s, h1, h2⟩ | y
      · exact ⟨s, by omega, h2⟩
      · exact ⟨i, by omega, y⟩
    · obtain ⟨s, h1, h2⟩ := y
      by_cases e : s = i
      · subst e; exact Or.inr h2
      · exact Or.inl ⟨s, by omega, h2⟩
theorem ey_scav {post : Int32 → SY → Prop} {e : Nat} (H : es_Log c f q cut rm str ty fr byi val ver onn call oi jn ec cl) (he : e ≤ f)
    (hp : ∀ r, es_Rm rm r (fun j => j < e ∧ es_go cut str val ver f j) → post (nI (es_rc r c - es_rc rm c)) (nI c, nI f, nI q, y_drafted, y_top, y_time, cut, r, str, ty, fr, byi, val, ver, onn, call, y_draftType, y_draftValue, y_op, y_with, y_length, y_height, y_torn, y_stack, y_position, y_cells, y_noted, y_wanted, y_formed, y_cursor, y_parked, y_where, y_often, y_due, y_many, y_found)) :
    ∃ n, wY_scavenge_9 post (nI e) (nI c) (nI f) (nI q) y_drafted y_top y_time n 0 0 cut rm str ty fr byi val ver onn call y_draftType y_draftValue y_op y_with y_length y_height y_torn y_stack y_position y_cells y_noted y_wanted y_formed y_cursor y_parked y_where y_often y_due y_many y_found := by
  have hc := H.1.1
  have hfc := H.1.2.1
  refine loop_0 (fun n a (s : Int32 × (Nat → Int32)) => wY_scavenge_9 post (nI e) (nI c) (nI f) (nI q) y_drafted y_top y_time n s.1 (nI a) cut s.2 str ty fr byi val ver onn call y_draftType y_draftValue y_op y_with y_length y_height y_torn y_stack y_position y_cells y_noted y_wanted y_formed y_cursor y_parked y_where y_often y_due y_many y_found) (fun a s => s.1 = nI (es_rc s.2 c - es_rc rm c) ∧ es_Rm rm s.2 (fun j => j < a ∧ es_go cut str val ver f j)) e (0, rm) ⟨by rw [Nat.sub_self]; rfl, es_Rm_0 (fun j => (H.2.2.2.2.1 j).1) (fun j h => absurd h.1 (Nat.not_lt_zero _))⟩ ?_ ?_
  · intro n s hs
    obtain ⟨x, r⟩ := s
    obtain ⟨h1, h2⟩ := hs
    have h1 : x = nI (es_rc r c - es_rc rm c) := h1
    subst h1
    exact br_t (Int32.le_refl _) (hp r h2)
  · intro n a s ha hs ih
    obtain ⟨x, r⟩ := s
    obtain ⟨h1, hr⟩ := hs
    have h1 : x = nI (es_rc r c - es_rc rm c) := h1
    have hr : es_Rm rm r (fun j => j < a ∧ es_go cut str val ver f j) := hr
    subst h1
    have ca : (nI a).toNatClampNeg = a := nI_clamp (by omega)
    have va : vp_in (nI a) 2000 := vp_in_nI (by omega) (by decide)
    have hv : 0 ≤ ver a := by
      obtain ⟨m, hm, e⟩ := H.2.2.2.1 a
      rw [e]; exact nI_pos' (by omega)
    have skip : ¬ es_go cut str val ver f a → es_Rm rm r (fun j => j < a + 1 ∧ es_go cut str val ver f j) := fun h => es_Rm_i hr (fun j => ⟨fun y => ⟨by omega, y.2⟩, fun y => ⟨by
      have : j ≠ a := fun e => h (e ▸ y.2)
      omega, y.2⟩⟩)
    have eqv : es_go cut str val ver f a → ∀ j, (j < a + 1 ∧ es_go cut str val ver f j) ↔ ((j < a ∧ es_go cut str val ver f j) ∨ j = a) := fun h j => ⟨fun y => by
      by_cases e : j = a
      · exact Or.inr e
      · exact Or.inl ⟨by omega, y.2⟩, fun y => by
      rcases y with y | y
      · exact ⟨by omega, y.2⟩
      · subst y; exact ⟨by omega, h⟩⟩
    have take : es_go cut str val ver f a → r a = 0 → wY_scavenge_47 post ((wY_scavenge_9 post (nI e) (nI c) (nI f) (nI q) y_drafted y_top y_time n)) (nI e) (nI (es_rc r c - es_rc rm c)) (nI a) (nI c) (nI f) (nI q) y_drafted y_top y_time cut r str ty fr byi val ver onn call y_draftType y_draftValue y_op y_with y_length y_height y_torn y_stack y_position y_cells y_noted y_wanted y_formed y_cursor y_parked y_where y_often y_due y_many y_found := fun h w => by
      have hrc := es_Rm_rc hr c
      refine ⟨va, nm_r (e' := upd r a 1) (by rw [ca, es_nb1]) (nm_r (e' := nI (es_rc (upd r a 1) c - es_rc rm c)) ?_ (nm_r (nI_1 _) (ih (_, upd r a 1) ⟨rfl, es_Rm_a hr (eqv h)⟩)))⟩
      show nI (es_rc r c - es_rc rm c) + 1 = nI (es_rc (upd r a 1) c - es_rc rm c)
      rw [es_rc_u w (by decide) c (by omega), nI_1]
      have hrc' : es_rc rm c ≤ es_rc r c := hrc
      rw [show es_rc r c - es_rc rm c + 1 = es_rc r c + 1 - es_rc rm c by omega]
    refine br_f (nI_ge ha (by omega)) ⟨va, ?_⟩
    rw [ca]
    refine br_c (fun w => ⟨va, br_c (fun z => ?_) (fun z => take (Or.inl z) w)⟩) (fun w => ?_)
    · refine ey_hidden (by omega) (by omega) (fun y => br_f (by decide) (take (Or.inr ((es_hid_iff hv f).mp y)) w)) (fun y => br_t rfl (nm_r (nI_1 _) (ih (_, r) ⟨rfl, skip (fun g => ?_)⟩)))
      rcases g with g | g
      · exact g z
      · exact y ((es_hid_iff hv f).mpr g)
    · refine nm_r (nI_1 _) (ih (_, r) ⟨rfl, ?_⟩)
      by_cases g : es_go cut str val ver f a
      · exact es_Rm_g hr w (eqv g)
      · exact skip g
theorem i_vc_scavenge {k : Nat} {u : SX} {v : SY} (I : i_Rel k u v) (hk : k + 4 ≤ 2048) : wpX_scavenge (fun r u' => wpY_scavenge (fun r' v' => r' = r ∧ i_Rel (k + 4) u' v') v) u := by
  obtain ⟨x_records, x_removedCount, x_flushed, x_drafted, x_height, x_time, x_foundAt, x_recordStream, x_recordType, x_recordVersion, x_recordValue, x_originProjection, x_originPosition, x_originInstruction, x_joined, x_removed, x_eventCount, x_cutLevel, x_draftType, x_draftValue, x_ops, x_arguments, x_programLength, x_states, x_noted, x_stack, x_metHeight, x_groupType, x_cursor, x_keptCursor, x_parked, x_rowCount, x_rowPosition, x_rowTimes, x_rowDue⟩ := u
  obtain ⟨y_count, y_flushed, y_calls, y_drafted, y_top, y_time, y_isCut, y_removed, y_stream, y_type, y_from, y_by, y_value, y_version, y_on, y_call, y_draftType, y_draftValue, y_op, y_with, y_length, y_height, y_torn, y_stack, y_position, y_cells, y_noted, y_wanted, y_formed, y_cursor, y_parked, y_where, y_often, y_due, y_many, y_found⟩ := v
  obtain ⟨q, hq, c, f, d, L, hQ⟩ := I
  obtain ⟨e, he, hX, hY⟩ := em_low hQ
  obtain ⟨hL, hD, hP, hS, hG, hF⟩ := hQ
  obtain ⟨rfl, rfl, rfl, rfl, rfl, rfl, rfl, rfl, rfl, rfl, rfl, rfl, rfl, hl⟩ := hL
  unfold wpX_scavenge
  refine hX _ (ex_scav hl he (fun r hr => ?_))
  unfold wpY_scavenge
  refine hY _ (ey_scav hl he (fun r' hr' => ?_))
  have := es_Rm_u hr hr' (fun j => Iff.rfl)
  subst this
  refine ⟨rfl, q, by omega, c, f, d, L, ⟨rfl, rfl, rfl, rfl, rfl, rfl, rfl, rfl, rfl, rfl, rfl, rfl, rfl, es_Log_scav hl (fun i => ⟨(hr i).1, fun hi => ?_⟩) (es_Rm_rc hr c)⟩, hD, hP, hS, hG, hF⟩
  exact (hr i).2.mpr ⟨(hl.2.2.2.2.1 i).2 hi, fun h => by omega⟩
end
