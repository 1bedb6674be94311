/-! locals that nobody reads any more may be forgotten -/
def am_lq : am_L → am_L → Prop
  | [], [] => True
  | x :: r, y :: s => (x = y ∨ (x = none ∧ ((∃ z : Int, y = some (.inl z)) ∨ ∃ z : Option Nat, y = some (.inr (.inr z))))) ∧ am_lq r s
  | _, _ => False
theorem am_lq_nth : ∀ {ls ls' : am_L} {i : Nat} {v : am_V}, am_lq ls ls' → am_nth ls i = some (some v) → am_nth ls' i = some (some v)
  | [], [], i, v, _, h => h
  | x :: r, y :: s, 0, v, hle, h => by
    cases h
    rcases hle.1 with e | ⟨e, -⟩
    · rw [← e]; rfl
    · cases e
  | x :: r, y :: s, i + 1, v, hle, h => am_lq_nth (ls := r) (ls' := s) (i := i) hle.2 h
  | [], _ :: _, _, _, hle, _ => hle.elim
  | _ :: _, [], _, _, hle, _ => hle.elim
theorem am_lq_stw : ∀ {ls ls' r : am_L} {i : Nat} {v : am_V}, am_lq ls ls' → am_stw ls i v = some r → ∃ r', am_stw ls' i v = some r' ∧ am_lq r r'
  | [], [], r, i, v, _, h => by cases i <;> simp [am_stw] at h
  | x :: ls, y :: ls', r, 0, v, hle, h => by
    rw [am_stw] at h
    cases h
    exact ⟨some v :: ls', rfl, Or.inl rfl, hle.2⟩
  | x :: ls, y :: ls', r, i + 1, v, hle, h => by
    have nl : ∀ {z : Option am_V} {l r : am_L}, am_stw (z :: l) (i + 1) v = some r → (i = 0 → ∀ q, z ≠ some (.inr (.inl q))) := by
      intro z l r hz hi q e
      subst hi
      subst e
      simp [am_stw] at hz
    have st : ∀ {z : Option am_V} {l : am_L}, (i = 0 → ∀ q, z ≠ some (.inr (.inl q))) → am_stw (z :: l) (i + 1) v = (match am_stw l i v with
      | some r' => some (z :: r')
      | none => none) := by
      intro z l hz
      rw [am_stw]
      · cases am_stw l i v <;> rfl
      · intro q e1 e2
        exact hz (by omega) q e1
    have hx := nl h
    rw [st hx] at h
    cases hr : am_stw ls i v with
    | none => rw [hr] at h; cases h
    | some r1 =>
      rw [hr] at h
      cases h
      obtain ⟨r2, g1, g2⟩ := am_lq_stw hle.2 hr
      refine ⟨y :: r2, ?_, hle.1, g2⟩
      rw [st ?_, g1]
      intro hi q e
      rcases hle.1 with e1 | ⟨-, ⟨z, e1⟩ | ⟨z, e1⟩⟩
      · exact hx hi q (e1.trans e)
      · rw [e1] at e; cases e
      · rw [e1] at e; cases e
  | [], _ :: _, _, _, _, hle, _ => hle.elim
  | _ :: _, [], _, _, _, hle, _ => hle.elim
set_option maxHeartbeats 2000000 in
theorem am_step_le {e : am_E} {ls ls2 : am_L} {st : am_S} {h : am_H} {N N' : am_L → am_S → am_H → Prop} {J J' : Nat → am_L → am_S → am_H → Prop} {R : am_P} {X X' : Nat → List am_V → am_H → am_P → Prop} (hle : am_lq ls ls2)
    (hN : ∀ l l' st h, am_lq l l' → N l st h → N' l' st h) (hJ : ∀ t l l' st h, am_lq l l' → J t l st h → J' t l' st h) (hX : ∀ j as h (K K' : am_P), (∀ o h', K o h' → K' o h') → X j as h K → X' j as h K')
    (H : am_step e ls st h N J R X) : am_step e ls2 st h N' J' R X' := by
  obtain ⟨pc, len, i, a, b, v, w, js⟩ := e
  cases i with
  | iconst x0 =>
    exact hN _ _ _ _ hle H
  | bipush x0 =>
    exact hN _ _ _ _ hle H
  | sipush x0 =>
    exact hN _ _ _ _ hle H
  | ldc x0 =>
    exact hN _ _ _ _ hle H
  | ldc_w x0 =>
    exact hN _ _ _ _ hle H
  | lconst x0 =>
    exact hN _ _ _ _ hle H
  | ldc2_w x0 =>
    exact hN _ _ _ _ hle H
  | aconst_null =>
    exact hN _ _ _ _ hle H
  | iload_n x0 =>
    dsimp only [am_step] at H ⊢
    unfold am_ldI at H ⊢
    split at H
    · rename_i y hy
      rw [am_lq_nth hle hy]
      exact hN _ _ _ _ hle H
    · exact H.elim
  | iload x0 =>
    dsimp only [am_step] at H ⊢
    unfold am_ldI at H ⊢
    split at H
    · rename_i y hy
      rw [am_lq_nth hle hy]
      exact hN _ _ _ _ hle H
    · exact H.elim
  | lload_n x0 =>
    dsimp only [am_step] at H ⊢
    unfold am_ldL at H ⊢
    split at H
    · rename_i y hy
      rw [am_lq_nth hle hy]
      exact hN _ _ _ _ hle H
    · exact H.elim
  | lload x0 =>
    dsimp only [am_step] at H ⊢
    unfold am_ldL at H ⊢
    split at H
    · rename_i y hy
      rw [am_lq_nth hle hy]
      exact hN _ _ _ _ hle H
    · exact H.elim
  | aload_n x0 =>
    dsimp only [am_step] at H ⊢
    unfold am_ldA at H ⊢
    split at H
    · rename_i y hy
      rw [am_lq_nth hle hy]
      exact hN _ _ _ _ hle H
    · exact H.elim
  | aload x0 =>
    dsimp only [am_step] at H ⊢
    unfold am_ldA at H ⊢
    split at H
    · rename_i y hy
      rw [am_lq_nth hle hy]
      exact hN _ _ _ _ hle H
    · exact H.elim
  | istore_n x0 =>
    dsimp only [am_step] at H ⊢
    split at H
    · unfold am_sto at H ⊢
      split at H
      · rename_i ls' hy
        obtain ⟨r', g1, g2⟩ := am_lq_stw hle hy
        try dsimp only
        try dsimp only
        rw [g1]
        exact hN _ _ _ _ g2 H
      · exact H.elim
    · exact H.elim
  | istore x0 =>
    dsimp only [am_step] at H ⊢
    split at H
    · unfold am_sto at H ⊢
      split at H
      · rename_i ls' hy
        obtain ⟨r', g1, g2⟩ := am_lq_stw hle hy
        try dsimp only
        try dsimp only
        rw [g1]
        exact hN _ _ _ _ g2 H
      · exact H.elim
    · exact H.elim
  | astore_n x0 =>
    dsimp only [am_step] at H ⊢
    split at H
    · unfold am_sto at H ⊢
      split at H
      · rename_i ls' hy
        obtain ⟨r', g1, g2⟩ := am_lq_stw hle hy
        try dsimp only
        try dsimp only
        rw [g1]
        exact hN _ _ _ _ g2 H
      · exact H.elim
    · exact H.elim
  | iinc x0 n0 =>
    dsimp only [am_step] at H ⊢
    unfold am_ldI at H ⊢
    split at H
    · rename_i y hy0
      rw [am_lq_nth hle hy0]
      try dsimp only
      unfold am_sto at H ⊢
      split at H
      · rename_i ls' hy
        obtain ⟨r', g1, g2⟩ := am_lq_stw hle hy
        try dsimp only
        rw [g1]
        exact hN _ _ _ _ g2 H
      · exact H.elim
    · exact H.elim
  | iadd =>
    dsimp only [am_step] at H ⊢
    split at H
    · exact hN _ _ _ _ hle H
    · exact H.elim
  | isub =>
    dsimp only [am_step] at H ⊢
    split at H
    · exact hN _ _ _ _ hle H
    · exact H.elim
  | imul =>
    dsimp only [am_step] at H ⊢
    split at H
    · exact hN _ _ _ _ hle H
    · exact H.elim
  | ineg =>
    dsimp only [am_step] at H ⊢
    split at H
    · exact hN _ _ _ _ hle H
    · exact H.elim
  | iand =>
    dsimp only [am_step] at H ⊢
    split at H
    · exact hN _ _ _ _ hle H
    · exact H.elim
  | ior =>
    dsimp only [am_step] at H ⊢
    split at H
    · exact hN _ _ _ _ hle H
    · exact H.elim
  | ixor =>
    dsimp only [am_step] at H ⊢
    split at H
    · exact hN _ _ _ _ hle H
    · exact H.elim
  | ishl =>
    dsimp only [am_step] at H ⊢
    split at H
    · exact hN _ _ _ _ hle H
    · exact H.elim
  | ishr =>
    dsimp only [am_step] at H ⊢
    split at H
    · exact hN _ _ _ _ hle H
    · exact H.elim
  | iushr =>
    dsimp only [am_step] at H ⊢
    split at H
    · exact hN _ _ _ _ hle H
    · exact H.elim
  | i2l =>
    dsimp only [am_step] at H ⊢
    split at H
    · exact hN _ _ _ _ hle H
    · exact H.elim
  | l2i =>
    dsimp only [am_step] at H ⊢
    split at H
    · exact hN _ _ _ _ hle H
    · exact H.elim
  | lcmp =>
    dsimp only [am_step] at H ⊢
    split at H
    · exact hN _ _ _ _ hle H
    · exact H.elim
  | land =>
    dsimp only [am_step] at H ⊢
    split at H
    · exact hN _ _ _ _ hle H
    · exact H.elim
  | lor =>
    dsimp only [am_step] at H ⊢
    split at H
    · exact hN _ _ _ _ hle H
    · exact H.elim
  | lxor =>
    dsimp only [am_step] at H ⊢
    split at H
    · exact hN _ _ _ _ hle H
    · exact H.elim
  | lshl =>
    dsimp only [am_step] at H ⊢
    split at H
    · exact hN _ _ _ _ hle H
    · exact H.elim
  | lshr =>
    dsimp only [am_step] at H ⊢
    split at H
    · exact hN _ _ _ _ hle H
    · exact H.elim
  | lushr =>
    dsimp only [am_step] at H ⊢
    split at H
    · exact hN _ _ _ _ hle H
    · exact H.elim
  | dup2 =>
    dsimp only [am_step] at H ⊢
    split at H
    · exact hN _ _ _ _ hle H
    · exact H.elim
  | dup =>
    dsimp only [am_step] at H ⊢
    split at H
    · exact hN _ _ _ _ hle H
    · exact hN _ _ _ _ hle H
    · exact H.elim
  | idiv =>
    dsimp only [am_step] at H ⊢
    split at H
    · exact ⟨H.1, hN _ _ _ _ hle H.2⟩
    · exact H.elim
  | irem =>
    dsimp only [am_step] at H ⊢
    split at H
    · exact ⟨H.1, hN _ _ _ _ hle H.2⟩
    · exact H.elim
  | getfield x0 =>
    dsimp only [am_step] at H ⊢
    split at H
    · unfold am_gf at H ⊢
      try dsimp only
      split at H
      · rename_i ci fks hlay
        try rw [hlay]
        try dsimp only
        by_cases hcc : ci = a
        · rw [if_pos hcc] at H ⊢
          split at H
          · rename_i hf
            try rw [hf]
            exact hN _ _ _ _ hle H
          · rename_i t hf
            try rw [hf]
            exact hN _ _ _ _ hle H
          · exact H.elim
        · rw [if_neg hcc] at H; exact H.elim
      · exact H.elim
    · exact H.elim
  | putfield x0 =>
    dsimp only [am_step] at H ⊢
    split at H
    · unfold am_pf at H ⊢
      try dsimp only
      split at H
      · rename_i ci fks hlay
        try rw [hlay]
        try dsimp only
        by_cases hcc : ci = a
        · rw [if_pos hcc] at H ⊢
          split at H
          · rename_i hf
            try rw [hf]
            exact ⟨H.1, hN _ _ _ _ hle H.2⟩
          · exact H.elim
        · rw [if_neg hcc] at H; exact H.elim
      · exact H.elim
    · exact H.elim
  | iaload =>
    dsimp only [am_step] at H ⊢
    split at H
    · unfold am_ar at H ⊢
      try dsimp only
      split at H
      · rename_i ty' n0 hlay
        try rw [hlay]
        try dsimp only
        by_cases ht : ty' = .int
        · rw [if_pos ht] at H ⊢
          exact ⟨H.1, hN _ _ _ _ hle H.2⟩
        · rw [if_neg ht] at H; exact H.elim
      · exact H.elim
    · exact H.elim
  | baload =>
    dsimp only [am_step] at H ⊢
    split at H
    · unfold am_ar at H ⊢
      try dsimp only
      split at H
      · rename_i ty' n0 hlay
        try rw [hlay]
        try dsimp only
        by_cases ht : ty' = .boolean
        · rw [if_pos ht] at H ⊢
          exact ⟨H.1, hN _ _ _ _ hle H.2⟩
        · rw [if_neg ht] at H; exact H.elim
      · exact H.elim
    · exact H.elim
  | laload =>
    dsimp only [am_step] at H ⊢
    split at H
    · unfold am_ar at H ⊢
      try dsimp only
      split at H
      · rename_i ty' n0 hlay
        try rw [hlay]
        try dsimp only
        by_cases ht : ty' = .long
        · rw [if_pos ht] at H ⊢
          exact ⟨H.1, hN _ _ _ _ hle H.2⟩
        · rw [if_neg ht] at H; exact H.elim
      · exact H.elim
    · exact H.elim
  | iastore =>
    dsimp only [am_step] at H ⊢
    split at H
    · unfold am_ar at H ⊢
      try dsimp only
      split at H
      · rename_i ty' n0 hlay
        try rw [hlay]
        try dsimp only
        by_cases ht : ty' = .int
        · rw [if_pos ht] at H ⊢
          exact ⟨H.1, hN _ _ _ _ hle H.2⟩
        · rw [if_neg ht] at H; exact H.elim
      · exact H.elim
    · exact H.elim
  | bastore =>
    dsimp only [am_step] at H ⊢
    split at H
    · unfold am_ar at H ⊢
      try dsimp only
      split at H
      · rename_i ty' n0 hlay
        try rw [hlay]
        try dsimp only
        by_cases ht : ty' = .boolean
        · rw [if_pos ht] at H ⊢
          exact ⟨H.1, hN _ _ _ _ hle H.2⟩
        · rw [if_neg ht] at H; exact H.elim
      · exact H.elim
    · exact H.elim
  | lastore =>
    dsimp only [am_step] at H ⊢
    split at H
    · unfold am_ar at H ⊢
      try dsimp only
      split at H
      · rename_i ty' n0 hlay
        try rw [hlay]
        try dsimp only
        by_cases ht : ty' = .long
        · rw [if_pos ht] at H ⊢
          exact ⟨H.1, hN _ _ _ _ hle H.2⟩
        · rw [if_neg ht] at H; exact H.elim
      · exact H.elim
    · exact H.elim
  | arraylength =>
    dsimp only [am_step] at H ⊢
    split at H
    · unfold am_al0 at H ⊢
      try dsimp only
      split at H
      · rename_i ty' n0 hlay
        try rw [hlay]
        exact hN _ _ _ _ hle H
      · exact H.elim
    · exact H.elim
  | ifCond cd x0 =>
    dsimp only [am_step] at H ⊢
    split at H
    · obtain ⟨hR, H⟩ := H
      refine ⟨hR, ?_⟩
      unfold am_br at H ⊢
      split at H
      · exact ⟨fun q => hJ _ _ _ _ _ hle (H.1 q), fun q => hN _ _ _ _ hle (H.2 q)⟩
      · exact H.elim
    · exact H.elim
  | if_icmp cd x0 =>
    dsimp only [am_step] at H ⊢
    split at H
    · obtain ⟨hR, H⟩ := H
      refine ⟨hR, ?_⟩
      unfold am_br at H ⊢
      split at H
      · exact ⟨fun q => hJ _ _ _ _ _ hle (H.1 q), fun q => hN _ _ _ _ hle (H.2 q)⟩
      · exact H.elim
    · exact H.elim
  | ifnonnull x0 =>
    dsimp only [am_step] at H ⊢
    split at H
    · unfold am_br at H ⊢
      split at H
      · exact hJ _ _ _ _ _ hle H
      · exact H.elim
    · exact hN _ _ _ _ hle H
    · exact H.elim
  | goto x0 =>
    dsimp only [am_step] at H ⊢
    unfold am_br at H ⊢
    split at H
    · exact hJ _ _ _ _ _ hle H
    · exact H.elim
  | tableswitch d0 lo hi offs =>
    rcases st with _ | ⟨y | y, r⟩
    · exact (show False from H).elim
    · rcases js with _ | ⟨dt, ts⟩
      · exact (show False from H).elim
      · obtain ⟨hR, H⟩ := (show am_R y ∧ am_sw y v ts dt _ from H)
        obtain ⟨t, h1, h2⟩ := am_sw_one _ _ H
        exact ⟨hR, h2 (fun t => J' t ls2 r h) (hJ _ _ _ _ _ hle h1)⟩
    · exact (show False from H).elim
  | ireturn =>
    exact H
  | areturn =>
    exact H
  | return_ =>
    exact H
  | invokevirtual x0 =>
    dsimp only [am_step] at H ⊢
    split at H
    · rename_i as r htk
      refine ⟨H.1, hX _ _ _ _ _ (fun o h' q => ?_) H.2⟩
      cases o <;> exact hN _ _ _ _ hle q
    · exact H.elim
  | invokestatic x0 =>
    dsimp only [am_step] at H ⊢
    by_cases ha9 : a = 999
    · rw [if_pos ha9] at H ⊢
      unfold am_copy at H ⊢
      split at H
      · rename_i n0 dp d0 sp s0 r
        try dsimp only
        unfold am_ar at H ⊢
        split at H
        · rename_i ty1 ns hlay1
          try rw [hlay1]
          try dsimp only
          by_cases ht1 : ty1 = .int
          · rw [if_pos ht1] at H ⊢
            split at H
            · rename_i ty2 nd hlay2
              try rw [hlay2]
              try dsimp only
              by_cases ht2 : ty2 = .int
              · rw [if_pos ht2] at H ⊢
                exact ⟨H.1, H.2.1, hN _ _ _ _ hle H.2.2⟩
              · rw [if_neg ht2] at H; exact H.elim
            · exact H.elim
          · rw [if_neg ht1] at H; exact H.elim
        · exact H.elim
      · exact H.elim
    · rw [if_neg ha9] at H ⊢
      split at H
      · rename_i as r htk
        refine ⟨H.1, hX _ _ _ _ _ (fun o h' q => ?_) H.2⟩
        cases o <;> exact hN _ _ _ _ hle q
      · exact H.elim
  | _ => exact (show False from H).elim
theorem am_wp_le : ∀ (n m k : Nat) (ls ls2 : am_L) (st : am_S) (h : am_H) (Q : am_P), am_lq ls ls2 → am_wp n m k ls st h Q → am_wp n m k ls2 st h Q := by
  intro n
  induction n with
  | zero => intro m k ls ls2 st h Q _ H; exact H.elim
  | succ n ih =>
    intro m k ls ls2 st h Q hle H
    rw [am_wp] at H ⊢
    cases he : am_nth (am_code m) k with
    | none => rw [he] at H; exact H.elim
    | some e =>
      rw [he] at H
      dsimp only at H ⊢
      refine am_step_le hle (fun l l' st h hl q => ih _ _ _ _ _ _ _ hl q) (fun t l l' st h hl q => ih _ _ _ _ _ _ _ hl q) ?_ H
      intro j as h K K' hK q
      obtain ⟨c1, c2⟩ := am_rc_iff.mp q
      refine am_rc_iff.mpr ⟨c1, ?_⟩
      by_cases hc : am_cat as ≤ am_ml j
      · rw [if_pos hc] at c2 ⊢
        obtain ⟨o, h', g1, g2⟩ := am_wp_det _ _ _ _ _ _ _ c2
        exact g2 K' (hK _ _ g1) n (Nat.le_refl _)
      · rw [if_neg hc] at c2; exact c2.elim
theorem am_forget {m k : Nat} {ls ls2 : am_L} {st : am_S} {h : am_H} {Q : am_P} (H : am_Ex m k ls st h Q) (hle : am_lq ls ls2) : am_Ex m k ls2 st h Q := by
  obtain ⟨n, H⟩ := H
  exact ⟨n, am_wp_le _ _ _ _ _ _ _ _ hle H⟩
theorem am_lq_rf : ∀ (ls : am_L), am_lq ls ls
  | [] => trivial
  | _ :: r => ⟨Or.inl rfl, am_lq_rf r⟩
theorem am_step_mono {e : am_E} {ls : am_L} {st : am_S} {h : am_H} {N N' : am_L → am_S → am_H → Prop} {J J' : Nat → am_L → am_S → am_H → Prop} {R : am_P} {X X' : Nat → List am_V → am_H → am_P → Prop}
    (hN : ∀ l st h, N l st h → N' l st h) (hJ : ∀ t l st h, J t l st h → J' t l st h) (hX : ∀ j as h (K K' : am_P), (∀ o h', K o h' → K' o h') → X j as h K → X' j as h K') (H : am_step e ls st h N J R X) : am_step e ls st h N' J' R X' := by
  obtain ⟨ls', st', h', h1, h2⟩ | ⟨t, ls', st', h', h1, h2⟩ | ⟨o, h', h1, h2⟩ | ⟨j, as, r, h1, h2⟩ := am_nf H
  · exact h2 _ _ _ _ (hN _ _ _ h1)
  · exact h2 _ _ _ _ (hJ _ _ _ _ h1)
  · exact h2 _ _ _ _ h1
  · exact h2 _ _ _ _ (hX _ _ _ _ _ (fun o h' q => hN _ _ _ q) h1)
theorem am_bk_iff' {m : Nat} {Q : am_P} {kend : Nat} : ∀ (r : List am_E) (k : Nat) (ls : am_L) (st : am_S) (h : am_H), ((am_code m).drop k).take r.length = r → kend = k + r.length → am_Ex m k ls st h Q → am_bk m Q kend r ls st h
  | [], k, ls, st, h, _, hk, H => by
    rw [List.length_nil, Nat.add_zero] at hk
    rw [am_bk, hk]; exact H
  | e :: r, k, ls, st, h, hr, hk, H => by
    have he : am_nth (am_code m) k = some e := by
      have : (((am_code m).drop k).take (e :: r).length)[0]? = some e := by rw [hr]; rfl
      rw [am_nth_eq]
      simpa using this
    have hr' : ((am_code m).drop (k + 1)).take r.length = r := by
      have h2 : ((am_code m).drop k) = e :: (am_code m).drop (k + 1) := by
        rw [am_nth_eq] at he
        obtain ⟨hlt, hget⟩ := List.getElem?_eq_some_iff.mp he
        rw [List.drop_eq_getElem_cons hlt, hget]
      rw [h2, List.length_cons, List.take_succ_cons] at hr
      exact (List.cons.inj hr).2
    have hk' : kend = k + 1 + r.length := by rw [hk, List.length_cons]; omega
    obtain ⟨n, H⟩ := H
    cases n with
    | zero => exact H.elim
    | succ n =>
      rw [am_wp, he] at H
      dsimp only at H
      rw [am_bk]
      refine am_step_mono (fun l st h q => am_bk_iff' r (k + 1) l st h hr' hk' ⟨n, q⟩) (fun t l st h q => ⟨n, q⟩) ?_ H
      intro j as h K K' hK q
      exact am_Call_mono ⟨n, q⟩ hK
theorem am_bk_eq {m : Nat} {Q : am_P} {kend k : Nat} {r : List am_E} {ls : am_L} {st : am_S} {h : am_H} (hr : ((am_code m).drop k).take r.length = r) (hk : kend = k + r.length) : am_Ex m k ls st h Q = am_bk m Q kend r ls st h :=
  propext ⟨am_bk_iff' r k ls st h hr hk, am_bk_ok hr hk⟩
theorem am_call_Se {j : Nat} {as : List am_V} {h : am_H} {Q : am_P} {ls : am_L} {n : Nat} (hs : am_ss j = true) (hm : am_ml j = n) (hc : Nat.ble (am_cat as) n = true) (hl : am_pad n as = ls) : am_Call j as h Q = am_Ex j 0 ls [] h Q := by
  subst hm
  refine propext ⟨fun H => ?_, am_call_S ls hs hc hl⟩
  obtain ⟨n, H⟩ := H
  unfold am_rc at H
  rw [hs, if_pos rfl, if_pos (Nat.le_of_ble_eq_true hc), hl] at H
  exact ⟨n, H⟩
theorem am_call_Ve {j c ci : Nat} {as : List am_V} {h : am_H} {Q : am_P} {fks : List (Option Nat)} {ls : am_L} {n : Nat} (hs : am_ss j = false) (hm : am_ml j = n) (hy : am_lay c = .inr (ci, fks)) (ho : am_oc j = ci) (hc : Nat.ble (am_cat (.inr (.inr (some c)) :: as)) n = true) (hl : am_pad n (.inr (.inr (some c)) :: as) = ls) : am_Call j (.inr (.inr (some c)) :: as) h Q = am_Ex j 0 ls [] h Q := by
  subst hm
  refine propext ⟨fun H => ?_, am_call_V ls hs hy ho hc hl⟩
  obtain ⟨n, H⟩ := H
  unfold am_rc at H
  rw [hs] at H
  simp only [Bool.false_eq_true, if_false] at H
  rw [hy] at H
  simp only at H
  rw [if_pos ho.symm, if_pos (Nat.le_of_ble_eq_true hc), hl] at H
  exact ⟨n, H⟩
