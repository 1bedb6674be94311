/-! one continuation is taken: so the machine is monotone, and its end is one -/
def am_pu (o : Option am_V) (r : am_S) : am_S := match o with
  | some x => x :: r
  | none => r
theorem am_pu_eq (N : am_L → am_S → am_H → Prop) (ls : am_L) (r : am_S) : (fun (o : Option am_V) (h' : am_H) => match o with
      | some x => N ls (x :: r) h'
      | none => N ls r h') = fun o h' => N ls (am_pu o r) h' := by
  funext o h'
  cases o <;> rfl
def am_NF (e : am_E) (ls : am_L) (st : am_S) (h : am_H) (N : am_L → am_S → am_H → Prop) (J : Nat → am_L → am_S → am_H → Prop) (R : am_P) (X : Nat → List am_V → am_H → am_P → Prop) : Prop :=
  (∃ ls' st' h', N ls' st' h' ∧ ∀ N' J' R' X', N' ls' st' h' → am_step e ls st h N' J' R' X') ∨
  (∃ t ls' st' h', J t ls' st' h' ∧ ∀ N' J' R' X', J' t ls' st' h' → am_step e ls st h N' J' R' X') ∨
  (∃ o h', R o h' ∧ ∀ N' J' R' X', R' o h' → am_step e ls st h N' J' R' X') ∨
  (∃ j args r, X j args h (fun o h' => N ls (am_pu o r) h') ∧ ∀ N' J' R' (X' : Nat → List am_V → am_H → am_P → Prop), X' j args h (fun o h' => N' ls (am_pu o r) h') → am_step e ls st h N' J' R' X')
theorem am_sw_one {x : Int} {d : Nat} {K : Nat → Prop} : ∀ (ts : List Nat) (lo : Int), am_sw x lo ts d K → ∃ t, K t ∧ ∀ K' : Nat → Prop, K' t → am_sw x lo ts d K'
  | [], lo, h => ⟨d, h, fun _ q => q⟩
  | t0 :: r, lo, h => by
    by_cases hx : x = lo
    · exact ⟨t0, h.1 hx, fun K' q => ⟨fun _ => q, fun z => absurd hx z⟩⟩
    · obtain ⟨t, h1, h2⟩ := am_sw_one r (lo + 1) (h.2 hx)
      exact ⟨t, h1, fun K' q => ⟨fun z => absurd z hx, fun _ => h2 K' q⟩⟩
set_option maxHeartbeats 2000000 in
theorem am_nf {e : am_E} {ls : am_L} {st : am_S} {h : am_H} {N : am_L → am_S → am_H → Prop} {J : Nat → am_L → am_S → am_H → Prop} {R : am_P} {X : Nat → List am_V → am_H → am_P → Prop} (H : am_step e ls st h N J R X) : am_NF e ls st h N J R X := by
  obtain ⟨pc, len, i, a, b, v, w, js⟩ := e
  cases i with
  | iconst x0 =>
    exact Or.inl ⟨_, _, _, H, fun _ _ _ _ q => q⟩
  | bipush x0 =>
    exact Or.inl ⟨_, _, _, H, fun _ _ _ _ q => q⟩
  | sipush x0 =>
    exact Or.inl ⟨_, _, _, H, fun _ _ _ _ q => q⟩
  | ldc x0 =>
    exact Or.inl ⟨_, _, _, H, fun _ _ _ _ q => q⟩
  | ldc_w x0 =>
    exact Or.inl ⟨_, _, _, H, fun _ _ _ _ q => q⟩
  | lconst x0 =>
    exact Or.inl ⟨_, _, _, H, fun _ _ _ _ q => q⟩
  | ldc2_w x0 =>
    exact Or.inl ⟨_, _, _, H, fun _ _ _ _ q => q⟩
  | aconst_null =>
    exact Or.inl ⟨_, _, _, H, fun _ _ _ _ q => q⟩
  | iload_n x0 =>
    dsimp only [am_step] at H
    unfold am_ldI at H
    split at H
    · rename_i y hy
      exact Or.inl ⟨_, _, _, H, fun _ _ _ _ q => by dsimp only [am_step]; unfold am_ldI; rw [hy]; exact q⟩
    · exact H.elim
  | iload x0 =>
    dsimp only [am_step] at H
    unfold am_ldI at H
    split at H
    · rename_i y hy
      exact Or.inl ⟨_, _, _, H, fun _ _ _ _ q => by dsimp only [am_step]; unfold am_ldI; rw [hy]; exact q⟩
    · exact H.elim
  | lload_n x0 =>
    dsimp only [am_step] at H
    unfold am_ldL at H
    split at H
    · rename_i y hy
      exact Or.inl ⟨_, _, _, H, fun _ _ _ _ q => by dsimp only [am_step]; unfold am_ldL; rw [hy]; exact q⟩
    · exact H.elim
  | lload x0 =>
    dsimp only [am_step] at H
    unfold am_ldL at H
    split at H
    · rename_i y hy
      exact Or.inl ⟨_, _, _, H, fun _ _ _ _ q => by dsimp only [am_step]; unfold am_ldL; rw [hy]; exact q⟩
    · exact H.elim
  | aload_n x0 =>
    dsimp only [am_step] at H
    unfold am_ldA at H
    split at H
    · rename_i y hy
      exact Or.inl ⟨_, _, _, H, fun _ _ _ _ q => by dsimp only [am_step]; unfold am_ldA; rw [hy]; exact q⟩
    · exact H.elim
  | aload x0 =>
    dsimp only [am_step] at H
    unfold am_ldA at H
    split at H
    · rename_i y hy
      exact Or.inl ⟨_, _, _, H, fun _ _ _ _ q => by dsimp only [am_step]; unfold am_ldA; rw [hy]; exact q⟩
    · exact H.elim
  | istore_n x0 =>
    dsimp only [am_step] at H
    split at H
    · unfold am_sto at H
      split at H
      · rename_i ls' hy
        exact Or.inl ⟨_, _, _, H, fun _ _ _ _ q => by dsimp only [am_step]; unfold am_sto; rw [hy]; exact q⟩
      · exact H.elim
    · exact H.elim
  | istore x0 =>
    dsimp only [am_step] at H
    split at H
    · unfold am_sto at H
      split at H
      · rename_i ls' hy
        exact Or.inl ⟨_, _, _, H, fun _ _ _ _ q => by dsimp only [am_step]; unfold am_sto; rw [hy]; exact q⟩
      · exact H.elim
    · exact H.elim
  | astore_n x0 =>
    dsimp only [am_step] at H
    split at H
    · unfold am_sto at H
      split at H
      · rename_i ls' hy
        exact Or.inl ⟨_, _, _, H, fun _ _ _ _ q => by dsimp only [am_step]; unfold am_sto; rw [hy]; exact q⟩
      · exact H.elim
    · exact H.elim
  | iinc x0 n0 =>
    dsimp only [am_step] at H
    unfold am_ldI at H
    split at H
    · rename_i y hy0
      unfold am_sto at H
      split at H
      · rename_i ls' hy
        exact Or.inl ⟨_, _, _, H, fun _ _ _ _ q => by dsimp only [am_step]; unfold am_ldI; rw [hy0]; dsimp only; unfold am_sto; rw [hy]; exact q⟩
      · exact H.elim
    · exact H.elim
  | iadd =>
    dsimp only [am_step] at H
    split at H
    · exact Or.inl ⟨_, _, _, H, fun _ _ _ _ q => q⟩
    · exact H.elim
  | isub =>
    dsimp only [am_step] at H
    split at H
    · exact Or.inl ⟨_, _, _, H, fun _ _ _ _ q => q⟩
    · exact H.elim
  | imul =>
    dsimp only [am_step] at H
    split at H
    · exact Or.inl ⟨_, _, _, H, fun _ _ _ _ q => q⟩
    · exact H.elim
  | ineg =>
    dsimp only [am_step] at H
    split at H
    · exact Or.inl ⟨_, _, _, H, fun _ _ _ _ q => q⟩
    · exact H.elim
  | iand =>
    dsimp only [am_step] at H
    split at H
    · exact Or.inl ⟨_, _, _, H, fun _ _ _ _ q => q⟩
    · exact H.elim
  | ior =>
    dsimp only [am_step] at H
    split at H
    · exact Or.inl ⟨_, _, _, H, fun _ _ _ _ q => q⟩
    · exact H.elim
  | ixor =>
    dsimp only [am_step] at H
    split at H
    · exact Or.inl ⟨_, _, _, H, fun _ _ _ _ q => q⟩
    · exact H.elim
  | ishl =>
    dsimp only [am_step] at H
    split at H
    · exact Or.inl ⟨_, _, _, H, fun _ _ _ _ q => q⟩
    · exact H.elim
  | ishr =>
    dsimp only [am_step] at H
    split at H
    · exact Or.inl ⟨_, _, _, H, fun _ _ _ _ q => q⟩
    · exact H.elim
  | iushr =>
    dsimp only [am_step] at H
    split at H
    · exact Or.inl ⟨_, _, _, H, fun _ _ _ _ q => q⟩
    · exact H.elim
  | i2l =>
    dsimp only [am_step] at H
    split at H
    · exact Or.inl ⟨_, _, _, H, fun _ _ _ _ q => q⟩
    · exact H.elim
  | l2i =>
    dsimp only [am_step] at H
    split at H
    · exact Or.inl ⟨_, _, _, H, fun _ _ _ _ q => q⟩
    · exact H.elim
  | lcmp =>
    dsimp only [am_step] at H
    split at H
    · exact Or.inl ⟨_, _, _, H, fun _ _ _ _ q => q⟩
    · exact H.elim
  | land =>
    dsimp only [am_step] at H
    split at H
    · exact Or.inl ⟨_, _, _, H, fun _ _ _ _ q => q⟩
    · exact H.elim
  | lor =>
    dsimp only [am_step] at H
    split at H
    · exact Or.inl ⟨_, _, _, H, fun _ _ _ _ q => q⟩
    · exact H.elim
  | lxor =>
    dsimp only [am_step] at H
    split at H
    · exact Or.inl ⟨_, _, _, H, fun _ _ _ _ q => q⟩
    · exact H.elim
  | lshl =>
    dsimp only [am_step] at H
    split at H
    · exact Or.inl ⟨_, _, _, H, fun _ _ _ _ q => q⟩
    · exact H.elim
  | lshr =>
    dsimp only [am_step] at H
    split at H
    · exact Or.inl ⟨_, _, _, H, fun _ _ _ _ q => q⟩
    · exact H.elim
  | lushr =>
    dsimp only [am_step] at H
    split at H
    · exact Or.inl ⟨_, _, _, H, fun _ _ _ _ q => q⟩
    · exact H.elim
  | dup2 =>
    dsimp only [am_step] at H
    split at H
    · exact Or.inl ⟨_, _, _, H, fun _ _ _ _ q => q⟩
    · exact H.elim
  | dup =>
    dsimp only [am_step] at H
    split at H
    · exact Or.inl ⟨_, _, _, H, fun _ _ _ _ q => q⟩
    · exact Or.inl ⟨_, _, _, H, fun _ _ _ _ q => q⟩
    · exact H.elim
  | idiv =>
    dsimp only [am_step] at H
    split at H
    · exact Or.inl ⟨_, _, _, H.2, fun _ _ _ _ q => ⟨H.1, q⟩⟩
    · exact H.elim
  | irem =>
    dsimp only [am_step] at H
    split at H
    · exact Or.inl ⟨_, _, _, H.2, fun _ _ _ _ q => ⟨H.1, q⟩⟩
    · exact H.elim
  | getfield x0 =>
    dsimp only [am_step] at H
    split at H
    · unfold am_gf at H
      split at H
      · rename_i ci fks hlay
        by_cases hcc : ci = a
        · rw [if_pos hcc] at H
          split at H
          · rename_i hf
            exact Or.inl ⟨_, _, _, H, fun _ _ _ _ q => by dsimp only [am_step]; unfold am_gf; rw [hlay]; dsimp only; rw [if_pos hcc, hf]; exact q⟩
          · rename_i t hf
            exact Or.inl ⟨_, _, _, H, fun _ _ _ _ q => by dsimp only [am_step]; unfold am_gf; rw [hlay]; dsimp only; rw [if_pos hcc, hf]; exact q⟩
          · exact H.elim
        · rw [if_neg hcc] at H; exact H.elim
      · exact H.elim
    · exact H.elim
  | putfield x0 =>
    dsimp only [am_step] at H
    split at H
    · unfold am_pf at H
      split at H
      · rename_i ci fks hlay
        by_cases hcc : ci = a
        · rw [if_pos hcc] at H
          split at H
          · rename_i hf
            exact Or.inl ⟨_, _, _, H.2, fun _ _ _ _ q => by dsimp only [am_step]; unfold am_pf; rw [hlay]; dsimp only; rw [if_pos hcc, hf]; exact ⟨H.1, q⟩⟩
          · exact H.elim
        · rw [if_neg hcc] at H; exact H.elim
      · exact H.elim
    · exact H.elim
  | iaload =>
    dsimp only [am_step] at H
    split at H
    · unfold am_ar at H
      split at H
      · rename_i ty' n0 hlay
        by_cases ht : ty' = .int
        · rw [if_pos ht] at H
          exact Or.inl ⟨_, _, _, H.2, fun _ _ _ _ q => by dsimp only [am_step]; unfold am_ar; rw [hlay]; dsimp only; rw [if_pos ht]; exact ⟨H.1, q⟩⟩
        · rw [if_neg ht] at H; exact H.elim
      · exact H.elim
    · exact H.elim
  | baload =>
    dsimp only [am_step] at H
    split at H
    · unfold am_ar at H
      split at H
      · rename_i ty' n0 hlay
        by_cases ht : ty' = .boolean
        · rw [if_pos ht] at H
          exact Or.inl ⟨_, _, _, H.2, fun _ _ _ _ q => by dsimp only [am_step]; unfold am_ar; rw [hlay]; dsimp only; rw [if_pos ht]; exact ⟨H.1, q⟩⟩
        · rw [if_neg ht] at H; exact H.elim
      · exact H.elim
    · exact H.elim
  | laload =>
    dsimp only [am_step] at H
    split at H
    · unfold am_ar at H
      split at H
      · rename_i ty' n0 hlay
        by_cases ht : ty' = .long
        · rw [if_pos ht] at H
          exact Or.inl ⟨_, _, _, H.2, fun _ _ _ _ q => by dsimp only [am_step]; unfold am_ar; rw [hlay]; dsimp only; rw [if_pos ht]; exact ⟨H.1, q⟩⟩
        · rw [if_neg ht] at H; exact H.elim
      · exact H.elim
    · exact H.elim
  | iastore =>
    dsimp only [am_step] at H
    split at H
    · unfold am_ar at H
      split at H
      · rename_i ty' n0 hlay
        by_cases ht : ty' = .int
        · rw [if_pos ht] at H
          exact Or.inl ⟨_, _, _, H.2, fun _ _ _ _ q => by dsimp only [am_step]; unfold am_ar; rw [hlay]; dsimp only; rw [if_pos ht]; exact ⟨H.1, q⟩⟩
        · rw [if_neg ht] at H; exact H.elim
      · exact H.elim
    · exact H.elim
  | bastore =>
    dsimp only [am_step] at H
    split at H
    · unfold am_ar at H
      split at H
      · rename_i ty' n0 hlay
        by_cases ht : ty' = .boolean
        · rw [if_pos ht] at H
          exact Or.inl ⟨_, _, _, H.2, fun _ _ _ _ q => by dsimp only [am_step]; unfold am_ar; rw [hlay]; dsimp only; rw [if_pos ht]; exact ⟨H.1, q⟩⟩
        · rw [if_neg ht] at H; exact H.elim
      · exact H.elim
    · exact H.elim
  | lastore =>
    dsimp only [am_step] at H
    split at H
    · unfold am_ar at H
      split at H
      · rename_i ty' n0 hlay
        by_cases ht : ty' = .long
        · rw [if_pos ht] at H
          exact Or.inl ⟨_, _, _, H.2, fun _ _ _ _ q => by dsimp only [am_step]; unfold am_ar; rw [hlay]; dsimp only; rw [if_pos ht]; exact ⟨H.1, q⟩⟩
        · rw [if_neg ht] at H; exact H.elim
      · exact H.elim
    · exact H.elim
  | arraylength =>
    dsimp only [am_step] at H
    split at H
    · unfold am_al0 at H
      split at H
      · rename_i ty' n0 hlay
        exact Or.inl ⟨_, _, _, H, fun _ _ _ _ q => by dsimp only [am_step]; unfold am_al0; rw [hlay]; exact q⟩
      · exact H.elim
    · exact H.elim
  | ifCond cd x0 =>
    dsimp only [am_step] at H
    split at H
    · rename_i x r
      obtain ⟨hR, H⟩ := H
      unfold am_br at H
      split at H
      · rename_i t
        by_cases hc : am_cmp cd x 0
        · exact Or.inr (Or.inl ⟨_, _, _, _, H.1 hc, fun _ _ _ _ q => ⟨hR, fun _ => q, fun z => absurd hc z⟩⟩)
        · exact Or.inl ⟨_, _, _, H.2 hc, fun _ _ _ _ q => ⟨hR, fun z => absurd z hc, fun _ => q⟩⟩
      · exact H.elim
    · exact H.elim
  | if_icmp cd x0 =>
    dsimp only [am_step] at H
    split at H
    · rename_i y x r
      obtain ⟨hR, H⟩ := H
      unfold am_br at H
      split at H
      · rename_i t
        by_cases hc : am_cmp cd x y
        · exact Or.inr (Or.inl ⟨_, _, _, _, H.1 hc, fun _ _ _ _ q => ⟨hR, fun _ => q, fun z => absurd hc z⟩⟩)
        · exact Or.inl ⟨_, _, _, H.2 hc, fun _ _ _ _ q => ⟨hR, fun z => absurd z hc, fun _ => q⟩⟩
      · exact H.elim
    · exact H.elim
  | ifnonnull x0 =>
    dsimp only [am_step] at H
    split at H
    · unfold am_br at H
      split at H
      · exact Or.inr (Or.inl ⟨_, _, _, _, H, fun _ _ _ _ q => q⟩)
      · exact H.elim
    · exact Or.inl ⟨_, _, _, H, fun _ _ _ _ q => q⟩
    · exact H.elim
  | goto x0 =>
    dsimp only [am_step] at H
    unfold am_br at H
    split at H
    · exact Or.inr (Or.inl ⟨_, _, _, _, H, fun _ _ _ _ q => q⟩)
    · exact H.elim
  | tableswitch d0 lo hi offs =>
    rcases st with _ | ⟨y | y, r⟩
    · exact (show False from H).elim
    · rcases js with _ | ⟨dt, ts⟩
      · exact (show False from H).elim
      · obtain ⟨hR, H⟩ := (show am_R y ∧ am_sw y v ts dt _ from H)
        obtain ⟨t, h1, h2⟩ := am_sw_one _ _ H
        exact Or.inr (Or.inl ⟨_, _, _, _, h1, fun N' J' R' X' q => ⟨hR, h2 (fun t => J' t ls r h) q⟩⟩)
    · exact (show False from H).elim
  | ireturn =>
    dsimp only [am_step] at H
    split at H
    · exact Or.inr (Or.inr (Or.inl ⟨_, _, H.2, fun _ _ _ _ q => ⟨H.1, q⟩⟩))
    · exact H.elim
  | areturn =>
    dsimp only [am_step] at H
    split at H
    · exact Or.inr (Or.inr (Or.inl ⟨_, _, H, fun _ _ _ _ q => q⟩))
    · exact H.elim
  | return_ =>
    dsimp only [am_step] at H
    split at H
    · exact Or.inr (Or.inr (Or.inl ⟨_, _, H, fun _ _ _ _ q => q⟩))
    · exact H.elim
  | invokevirtual x0 =>
    dsimp only [am_step] at H
    split at H
    · rename_i as r htk
      refine Or.inr (Or.inr (Or.inr ⟨a, as, r, ?_, fun N' J' R' X' q => ?_⟩))
      · rw [← am_pu_eq]; exact H.2
      · dsimp only [am_step]
        rw [htk]
        rw [← am_pu_eq] at q
        exact ⟨H.1, q⟩
    · exact H.elim
  | invokestatic x0 =>
    dsimp only [am_step] at H
    by_cases ha9 : a = 999
    · rw [if_pos ha9] at H
      unfold am_copy at H
      split at H
      · rename_i n0 dp d0 sp s0 r
        unfold am_ar at H
        split at H
        · rename_i ty1 ns hlay1
          by_cases ht1 : ty1 = .int
          · rw [if_pos ht1] at H
            split at H
            · rename_i ty2 nd hlay2
              by_cases ht2 : ty2 = .int
              · rw [if_pos ht2] at H
                exact Or.inl ⟨_, _, _, H.2.2, fun _ _ _ _ q => by dsimp only [am_step]; rw [if_pos ha9]; unfold am_copy; dsimp only; unfold am_ar; rw [hlay1]; dsimp only; rw [if_pos ht1, hlay2]; dsimp only; rw [if_pos ht2]; exact ⟨H.1, H.2.1, q⟩⟩
              · rw [if_neg ht2] at H; exact H.elim
            · exact H.elim
          · rw [if_neg ht1] at H; exact H.elim
        · exact H.elim
      · exact H.elim
    · rw [if_neg ha9] at H
      split at H
      · rename_i as r htk
        refine Or.inr (Or.inr (Or.inr ⟨a, as, r, ?_, fun N' J' R' X' q => ?_⟩))
        · rw [← am_pu_eq]; exact H.2
        · dsimp only [am_step]
          rw [if_neg ha9, htk]
          rw [← am_pu_eq] at q
          exact ⟨H.1, q⟩
      · exact H.elim
  | _ => exact (show False from H).elim
theorem am_rc_iff {s : Bool} {c : Nat} {as : List am_V} {P : Prop} : am_rc s c as P ↔ am_rc s c as True ∧ P := by
  unfold am_rc
  cases s with
  | true => simp
  | false =>
    simp only [Bool.false_eq_true, if_false]
    split
    · split
      · split <;> simp
      · simp
    · simp
theorem am_wp_det : ∀ (n m k : Nat) (ls : am_L) (st : am_S) (h : am_H) (Q : am_P), am_wp n m k ls st h Q → ∃ o h', Q o h' ∧ ∀ Q' : am_P, Q' o h' → ∀ n', n ≤ n' → am_wp n' m k ls st h Q' := by
  intro n
  induction n with
  | zero => intro m k ls st h Q H; exact H.elim
  | succ n ih =>
    intro m k ls st h Q H
    rw [am_wp] at H
    cases he : am_nth (am_code m) k with
    | none => rw [he] at H; exact H.elim
    | some e =>
      rw [he] at H
      have fin : ∀ {n' : Nat} {Q' : am_P}, am_step e ls st h (fun ls st h => am_wp n' m (k + 1) ls st h Q') (fun t ls st h => am_wp n' m t ls st h Q') Q' (fun j args h Q'' => am_rc (am_ss j) (am_oc j) args (if am_cat args ≤ am_ml j then am_wp n' j 0 (am_pad (am_ml j) args) [] h Q'' else False)) → am_wp (n' + 1) m k ls st h Q' := by
        intro n' Q' q
        rw [am_wp, he]
        exact q
      rcases am_nf H with ⟨ls', st', h', h1, h2⟩ | ⟨t, ls', st', h', h1, h2⟩ | ⟨o, h', h1, h2⟩ | ⟨j, as, r, h1, h2⟩
      · obtain ⟨o, h2', g1, g2⟩ := ih _ _ _ _ _ _ h1
        refine ⟨o, h2', g1, fun Q' q n' hn => ?_⟩
        obtain ⟨n'', rfl⟩ : ∃ n'', n' = n'' + 1 := ⟨n' - 1, by omega⟩
        exact fin (h2 _ _ _ _ (g2 Q' q n'' (by omega)))
      · obtain ⟨o, h2', g1, g2⟩ := ih _ _ _ _ _ _ h1
        refine ⟨o, h2', g1, fun Q' q n' hn => ?_⟩
        obtain ⟨n'', rfl⟩ : ∃ n'', n' = n'' + 1 := ⟨n' - 1, by omega⟩
        exact fin (h2 _ _ _ _ (g2 Q' q n'' (by omega)))
      · refine ⟨o, h', h1, fun Q' q n' hn => ?_⟩
        obtain ⟨n'', rfl⟩ : ∃ n'', n' = n'' + 1 := ⟨n' - 1, by omega⟩
        exact fin (h2 _ _ _ _ q)
      · obtain ⟨c1, c2⟩ := am_rc_iff.mp h1
        by_cases hc : am_cat as ≤ am_ml j
        · rw [if_pos hc] at c2
          obtain ⟨o1, h1', g1, g2⟩ := ih _ _ _ _ _ _ c2
          obtain ⟨o, h2', g3, g4⟩ := ih _ _ _ _ _ _ g1
          refine ⟨o, h2', g3, fun Q' q n' hn => ?_⟩
          obtain ⟨n'', rfl⟩ : ∃ n'', n' = n'' + 1 := ⟨n' - 1, by omega⟩
          refine fin (h2 _ _ _ _ (am_rc_iff.mpr ⟨c1, ?_⟩))
          rw [if_pos hc]
          exact g2 _ (g4 Q' q n'' (by omega)) n'' (by omega)
        · rw [if_neg hc] at c2; exact c2.elim
def am_Ex (m k : Nat) (ls : am_L) (st : am_S) (h : am_H) (Q : am_P) : Prop := ∃ n, am_wp n m k ls st h Q
def am_Call (j : Nat) (as : List am_V) (h : am_H) (Q : am_P) : Prop := ∃ n, am_rc (am_ss j) (am_oc j) as (if am_cat as ≤ am_ml j then am_wp n j 0 (am_pad (am_ml j) as) [] h Q else False)
theorem am_Call_mono {j : Nat} {as : List am_V} {h : am_H} {Q Q' : am_P} (H : am_Call j as h Q) (hq : ∀ o h', Q o h' → Q' o h') : am_Call j as h Q' := by
  obtain ⟨n, H⟩ := H
  obtain ⟨c1, c2⟩ := am_rc_iff.mp H
  by_cases hc : am_cat as ≤ am_ml j
  · rw [if_pos hc] at c2
    obtain ⟨o, h', g1, g2⟩ := am_wp_det _ _ _ _ _ _ _ c2
    exact ⟨n, am_rc_iff.mpr ⟨c1, by rw [if_pos hc]; exact g2 Q' (hq _ _ g1) n (Nat.le_refl _)⟩⟩
  · rw [if_neg hc] at c2; exact c2.elim
theorem am_Ex_mono {m k : Nat} {ls : am_L} {st : am_S} {h : am_H} {Q Q' : am_P} (H : am_Ex m k ls st h Q) (hq : ∀ o h', Q o h' → Q' o h') : am_Ex m k ls st h Q' := by
  obtain ⟨n, H⟩ := H
  obtain ⟨o, h', g1, g2⟩ := am_wp_det _ _ _ _ _ _ _ H
  exact ⟨n, g2 Q' (hq _ _ g1) n (Nat.le_refl _)⟩
/-- a run of entries: jumps and calls, and what comes behind it, are left to the reader -/
def am_bk (m : Nat) (Q : am_P) (kend : Nat) : List am_E → am_L → am_S → am_H → Prop
  | [], ls, st, h => am_Ex m kend ls st h Q
  | e :: r, ls, st, h => am_step e ls st h (fun ls st h => am_bk m Q kend r ls st h) (fun t ls st h => am_Ex m t ls st h Q) Q am_Call
theorem am_bk_ok' {m : Nat} {Q : am_P} {kend : Nat} : ∀ (r : List am_E) (k : Nat) (ls : am_L) (st : am_S) (h : am_H), ((am_code m).drop k).take r.length = r → kend = k + r.length → am_bk m Q kend r ls st h → am_Ex m k ls st h Q
  | [], k, ls, st, h, _, hk, H => by
    rw [List.length_nil, Nat.add_zero] at hk
    rw [← hk]; exact H
  | e :: r, k, ls, st, h, hr, hk, H => by
    have he : am_nth (am_code m) k = some e := by
      have : (((am_code m).drop k).take (e :: r).length)[0]? = some e := by rw [hr]; rfl
      rw [am_nth_eq]
      simpa using this
    have hr' : ((am_code m).drop (k + 1)).take r.length = r := by
      have h2 : ((am_code m).drop k) = e :: (am_code m).drop (k + 1) := by
        rw [am_nth_eq] at he
        obtain ⟨hlt, hget⟩ := List.getElem?_eq_some_iff.mp he
        rw [List.drop_eq_getElem_cons hlt, hget]
      rw [h2, List.length_cons, List.take_succ_cons] at hr
      exact (List.cons.inj hr).2
    have hk' : kend = k + 1 + r.length := by rw [hk, List.length_cons]; omega
    have fin : ∀ {n' : Nat}, am_step e ls st h (fun ls st h => am_wp n' m (k + 1) ls st h Q) (fun t ls st h => am_wp n' m t ls st h Q) Q (fun j args h Q'' => am_rc (am_ss j) (am_oc j) args (if am_cat args ≤ am_ml j then am_wp n' j 0 (am_pad (am_ml j) args) [] h Q'' else False)) → am_Ex m k ls st h Q := by
      intro n' q
      refine ⟨n' + 1, ?_⟩
      rw [am_wp, he]
      exact q
    rcases am_nf H with ⟨ls', st', h', h1, h2⟩ | ⟨t, ls', st', h', ⟨n, h1⟩, h2⟩ | ⟨o, h', h1, h2⟩ | ⟨j, as, rr, ⟨n, h1⟩, h2⟩
    · obtain ⟨n, hn⟩ := am_bk_ok' r (k + 1) ls' st' h' hr' hk' h1
      exact fin (h2 _ _ _ _ hn)
    · exact fin (h2 _ _ _ _ h1)
    · exact fin (n' := 0) (h2 _ _ _ _ h1)
    · obtain ⟨c1, c2⟩ := am_rc_iff.mp h1
      by_cases hc : am_cat as ≤ am_ml j
      · rw [if_pos hc] at c2
        obtain ⟨o1, h1', g1, g2⟩ := am_wp_det _ _ _ _ _ _ _ c2
        obtain ⟨n2, g3⟩ := am_bk_ok' r (k + 1) _ _ _ hr' hk' g1
        obtain ⟨o, h2', g4, g5⟩ := am_wp_det _ _ _ _ _ _ _ g3
        refine fin (n' := n + n2) (h2 _ _ _ _ (am_rc_iff.mpr ⟨c1, ?_⟩))
        rw [if_pos hc]
        exact g2 _ (g5 Q g4 _ (by omega)) _ (by omega)
      · rw [if_neg hc] at c2; exact c2.elim
theorem am_bk_ok {m : Nat} {Q : am_P} {kend k : Nat} {r : List am_E} {ls : am_L} {st : am_S} {h : am_H} (hr : ((am_code m).drop k).take r.length = r) (hk : kend = k + r.length) (H : am_bk m Q kend r ls st h) : am_Ex m k ls st h Q := am_bk_ok' r k ls st h hr hk H
/-- a call, from the callee's first instruction -/
theorem am_call_S {j : Nat} {as : List am_V} {h : am_H} {Q : am_P} (ls : am_L) (hs : am_ss j = true) (hc : Nat.ble (am_cat as) (am_ml j) = true) (hl : am_pad (am_ml j) as = ls) (H : am_Ex j 0 ls [] h Q) : am_Call j as h Q := by
  obtain ⟨n, H⟩ := H
  refine ⟨n, ?_⟩
  unfold am_rc
  rw [hs, if_pos rfl, if_pos (Nat.le_of_ble_eq_true hc), hl]
  exact H
theorem am_call_V {j c ci : Nat} {as : List am_V} {h : am_H} {Q : am_P} {fks : List (Option Nat)} (ls : am_L) (hs : am_ss j = false) (hy : am_lay c = .inr (ci, fks)) (ho : am_oc j = ci) (hc : Nat.ble (am_cat (.inr (.inr (some c)) :: as)) (am_ml j) = true) (hl : am_pad (am_ml j) (.inr (.inr (some c)) :: as) = ls) (H : am_Ex j 0 ls [] h Q) : am_Call j (.inr (.inr (some c)) :: as) h Q := by
  obtain ⟨n, H⟩ := H
  refine ⟨n, ?_⟩
  unfold am_rc
  rw [hs]
  simp only [Bool.false_eq_true, if_false]
  rw [hy]
  simp only
  rw [if_pos ho.symm, if_pos (Nat.le_of_ble_eq_true hc), hl]
  exact H

