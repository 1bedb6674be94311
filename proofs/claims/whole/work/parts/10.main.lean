set_option maxRecDepth 100000 in
theorem am_copyW : Jvm.Cond.native arraycopyName ∈ am_tb ∧ Jvm.Cond.static arraycopyName ∈ am_tb ∧ Jvm.Cond.initialized "java/lang/System" ∈ am_tb := by decide +kernel
theorem am_sw_spec {x : Int} {d : Nat} {K : Nat → Prop} : ∀ (ts : List Nat) (lo : Int), am_sw x lo ts d K → (∀ (j t : Nat), am_nth ts j = some t → x = lo + j → K t) ∧ ((x < lo ∨ lo + ts.length ≤ x) → K d)
  | [], lo, h => ⟨fun j t e => (by cases j <;> cases e), fun _ => h⟩
  | t0 :: r, lo, h => by
    obtain ⟨h1, h2⟩ := h
    refine ⟨fun j t e hx => ?_, fun hx => ?_⟩
    · cases j with
      | zero => cases e; exact h1 (by omega)
      | succ j => exact (am_sw_spec r (lo + 1) (h2 (by omega))).1 j t e (by omega)
    · simp only [List.length_cons] at hx
      exact (am_sw_spec r (lo + 1) (h2 (by omega))).2 (by omega)
theorem am_jts_spec {C : List am_E} {pc : Nat} : ∀ (os : List Int) (ts : List Nat), am_jts C pc os ts = true → os.length = ts.length ∧ ∀ (j : Nat) (off : Int), os[j]? = some off → ∃ t, am_nth ts j = some t ∧ (pc : Int) + off = (am_pcl C t : Int)
  | [], [], _ => ⟨rfl, fun j off h => by simp at h⟩
  | o :: os, t :: ts, h => by
    simp only [am_jts, Bool.and_eq_true, am_jt, decide_eq_true_eq] at h
    obtain ⟨h1, h2⟩ := am_jts_spec os ts h.2
    refine ⟨by simp [h1], fun j off e => ?_⟩
    cases j with
    | zero => cases e; exact ⟨t, rfl, h.1⟩
    | succ j => exact h2 j off e
  | [], _ :: _, h => by cases h
  | _ :: _, [], h => by cases h
theorem am_en_obj {ad : Nat → Nat} {cA : Nat → ClassId} {h : am_H} {c ci : Nat} {fks : List (Option Nat)} (e : am_lay c = .inr (ci, fks)) : am_en ad cA h c = .inr (ci, am_fv ad h c 0 fks) := by simp [am_en, e]
theorem am_en_int {ad : Nat → Nat} {cA : Nat → ClassId} {h : am_H} {c n : Nat} (e : am_lay c = .inl (.int, n)) : am_en ad cA h c = .inl (cA c, n, .inl (fun j => Int32.ofInt (h c j))) := by simp [am_en, e]
theorem am_en_bool {ad : Nat → Nat} {cA : Nat → ClassId} {h : am_H} {c n : Nat} (e : am_lay c = .inl (.boolean, n)) : am_en ad cA h c = .inl (cA c, n, .inl (fun j => Int32.ofInt (h c j))) := by simp [am_en, e]
theorem am_en_long {ad : Nat → Nat} {cA : Nat → ClassId} {h : am_H} {c n : Nat} (e : am_lay c = .inl (.long, n)) : am_en ad cA h c = .inl (cA c, n, .inr (.inl (fun j => Int64.ofInt (h c j)))) := by simp [am_en, e]
theorem am_up_off {h : am_H} {c : Nat} {i x : Int} : ∀ c', c' ≠ c → ∀ i', am_up h c i x c' i' = h c' i' := fun c' hc i' => if_neg (fun q => hc q.1)
theorem am_up_f {h : am_H} {c : Nat} {i x : Int} (hi : 0 ≤ i) : (fun j : Nat => Int32.ofInt (am_up h c i x c j)) = upd (fun j : Nat => Int32.ofInt (h c j)) i.toNat (Int32.ofInt x) := by
  funext j
  unfold am_up upd
  by_cases e : j = i.toNat
  · rw [if_pos e, if_pos ⟨rfl, by omega⟩]
  · rw [if_neg e, if_neg (fun q => e (by omega))]
theorem am_up_l {h : am_H} {c : Nat} {i : Int} {x : Int64} (hi : 0 ≤ i) : (fun j : Nat => Int64.ofInt (am_up h c i x.toInt c j)) = vp_updL (fun j : Nat => Int64.ofInt (h c j)) i.toNat x := by
  funext j
  unfold am_up vp_updL
  by_cases e : j = i.toNat
  · rw [if_pos e, if_pos ⟨rfl, by omega⟩, am_lofI]
  · rw [if_neg e, if_neg (fun q => e (by omega))]
theorem am_ety_of {c n : Nat} {ty : FieldType} (e : am_lay c = .inl (ty, n)) : am_ety c = ty := by simp [am_ety, e]
set_option maxHeartbeats 4000000 in
theorem am_snd (l : Launch) : ∀ n, am_SND l n := by
  intro n
  induction n with
  | zero => intro m k ls st h Q p e R s mm args below meth c H locs ad cA D A lsC cx hw; exact hw.elim
  | succ n ih =>
    intro m k ls st h Q p e R s mm args below meth c H locs ad cA D A lsC cx hw wd hl
    obtain ⟨hx, hb, hr, hml, hown, hts, hlk, hK, hN, hA, hRf, hRl⟩ := id cx
    rw [am_wp] at hw
    cases he : am_nth (am_code m) k with
    | none => rw [he] at hw; exact hw.elim
    | some e0 =>
      rw [he] at hw
      have hM := am_mk_of he
      have hck := am_chks_at _ k e0 hM.2.2.2.2.2.2.2.2 he
      obtain ⟨pc, len, i, a, b, v, w, js⟩ := e0
      have hpc : am_pcs m k = pc := by simp [am_pcs, am_pcl, he]
      rw [hpc]
      have goN : ∀ {ls' : am_L} {st' : am_S} {h' : am_H} {H' : Heap} {locs' : List Loc} {lsC' : Array Slot} {len' : Nat}, am_nx ((am_code m).drop (k + 1)) pc len' = true → am_wp n m (k + 1) ls' st' h' Q → am_wd ad cA D A s.heap h' H' locs' → am_lv ad lsC' (am_ml m) ls' →
          W p l e R s mm args below meth c H' locs' 0 0 (MQ below (am_Q ad cA D Q A) args s 0 0 A) (F0 mm (pc + len') lsC' (st'.map (am_c ad))) := by
        intro ls' st' h' H' locs' lsC' len' hnx hw' wd' hl'
        rw [← am_nx_pc hnx]
        exact ih m (k + 1) ls' st' h' Q p e R s mm args below meth c H' locs' ad cA D A lsC' cx hw' wd' hl'
      have goJ : ∀ {t : Nat} {ls' : am_L} {st' : am_S} {h' : am_H} {H' : Heap} {locs' : List Loc} {lsC' : Array Slot}, am_wp n m t ls' st' h' Q → am_wd ad cA D A s.heap h' H' locs' → am_lv ad lsC' (am_ml m) ls' →
          W p l e R s mm args below meth c H' locs' 0 0 (MQ below (am_Q ad cA D Q A) args s 0 0 A) (F0 mm (am_pcl (am_code m) t) lsC' (st'.map (am_c ad))) := by
        intro t ls' st' h' H' locs' lsC' hw' wd' hl'
        exact ih m t ls' st' h' Q p e R s mm args below meth c H' locs' ad cA D A lsC' cx hw' wd' hl'
      have hq : ∀ {o : Option am_V} {h' : am_H} {H' : Heap} {locs' : List Loc}, Q o h' → am_wd ad cA D A s.heap h' H' locs' → ∀ t : State, t.heap = H' → s.WarmedH t.vm → am_Q ad cA D Q A args s (.returned (o.map (am_c ad))) t := by
        intro o h' H' locs' hQ wd' t ht hW
        exact ⟨⟨o, h', rfl, hQ, by rw [ht]; exact wd'.1, va_K.moved hW.alike hK, va_Nw.warmM hW hN⟩, wd'.2.2.F ht⟩
      cases i with
      | iconst x0 =>
        simp only [am_chk, Bool.and_eq_true, decide_eq_true_eq] at hck
        dsimp only [am_step] at hw
        obtain ⟨hdg, ⟨rfl, hv⟩, hnx⟩ := hck
        exact lv_iconst hx hb hdg hv (goN hnx hw wd hl)
      | bipush x0 =>
        simp only [am_chk, Bool.and_eq_true, decide_eq_true_eq] at hck
        dsimp only [am_step] at hw
        obtain ⟨hdg, ⟨rfl, hv⟩, hnx⟩ := hck
        exact lv_bipush hx hb hdg hv (goN hnx hw wd hl)
      | sipush x0 =>
        simp only [am_chk, Bool.and_eq_true, decide_eq_true_eq] at hck
        dsimp only [am_step] at hw
        obtain ⟨hdg, ⟨rfl, hv⟩, hnx⟩ := hck
        exact lv_sipush hx hb hdg hv (goN hnx hw wd hl)
      | lconst x0 =>
        simp only [am_chk, Bool.and_eq_true, decide_eq_true_eq] at hck
        dsimp only [am_step] at hw
        obtain ⟨hdg, ⟨rfl, hv⟩, hnx⟩ := hck
        exact lv_lconst hx hb hdg hv (goN hnx hw wd hl)
      | ldc x0 =>
        simp only [am_chk, Bool.and_eq_true, decide_eq_true_eq] at hck
        dsimp only [am_step] at hw
        obtain ⟨hdg, ⟨rfl, hv⟩, hnx⟩ := hck
        exact lv_ldc hx hb hown (hts _ (am_at_mem hv)) hdg (goN hnx hw wd hl)
      | ldc_w x0 =>
        simp only [am_chk, Bool.and_eq_true, decide_eq_true_eq] at hck
        dsimp only [am_step] at hw
        obtain ⟨hdg, ⟨rfl, hv⟩, hnx⟩ := hck
        exact lv_ldcw hx hb hown (hts _ (am_at_mem hv)) hdg (goN hnx hw wd hl)
      | ldc2_w x0 =>
        simp only [am_chk, Bool.and_eq_true, decide_eq_true_eq] at hck
        dsimp only [am_step] at hw
        obtain ⟨hdg, ⟨rfl, hv⟩, hnx⟩ := hck
        exact lv_ldc2 hx hb hown (hts _ (am_at_mem hv)) hdg (goN hnx hw wd hl)
      | aconst_null =>
        simp only [am_chk, Bool.and_eq_true, decide_eq_true_eq] at hck
        dsimp only [am_step] at hw
        obtain ⟨hdg, rfl, hnx⟩ := hck
        exact lv_null hx hb hdg (goN hnx hw wd hl)
      | iload_n x0 =>
        simp only [am_chk, Bool.and_eq_true, decide_eq_true_eq] at hck
        dsimp only [am_step] at hw
        obtain ⟨hdg, rfl, hnx⟩ := hck
        unfold am_ldI at hw
        split at hw
        · rename_i y hy
          exact lv_iload_n hx hb hdg rfl (am_lv_at hl hy) (goN hnx hw wd hl)
        · exact hw.elim
      | iload x0 =>
        simp only [am_chk, Bool.and_eq_true, decide_eq_true_eq] at hck
        dsimp only [am_step] at hw
        obtain ⟨hdg, rfl, hnx⟩ := hck
        unfold am_ldI at hw
        split at hw
        · rename_i y hy
          exact lv_iload hx hb hdg (am_lv_at hl hy) (goN hnx hw wd hl)
        · exact hw.elim
      | lload_n x0 =>
        simp only [am_chk, Bool.and_eq_true, decide_eq_true_eq] at hck
        dsimp only [am_step] at hw
        obtain ⟨hdg, rfl, hnx⟩ := hck
        unfold am_ldL at hw
        split at hw
        · rename_i y hy
          exact lv_lload_n hx hb hdg rfl (am_lv_at hl hy) (goN hnx hw wd hl)
        · exact hw.elim
      | lload x0 =>
        simp only [am_chk, Bool.and_eq_true, decide_eq_true_eq] at hck
        dsimp only [am_step] at hw
        obtain ⟨hdg, rfl, hnx⟩ := hck
        unfold am_ldL at hw
        split at hw
        · rename_i y hy
          exact lv_lload hx hb hdg (am_lv_at hl hy) (goN hnx hw wd hl)
        · exact hw.elim
      | aload_n x0 =>
        simp only [am_chk, Bool.and_eq_true, decide_eq_true_eq] at hck
        dsimp only [am_step] at hw
        obtain ⟨hdg, rfl, hnx⟩ := hck
        unfold am_ldA at hw
        split at hw
        · rename_i y hy
          cases y with
          | none => exact lv_aload_nN hx hb hdg rfl (am_lv_at hl hy) (goN hnx hw wd hl)
          | some y => exact lv_aload_n hx hb hdg rfl (am_lv_at hl hy) (goN hnx hw wd hl)
        · exact hw.elim
      | aload x0 =>
        simp only [am_chk, Bool.and_eq_true, decide_eq_true_eq] at hck
        dsimp only [am_step] at hw
        obtain ⟨hdg, rfl, hnx⟩ := hck
        unfold am_ldA at hw
        split at hw
        · rename_i y hy
          cases y with
          | none => exact lv_aloadN hx hb hdg (am_lv_at hl hy) (goN hnx hw wd hl)
          | some y => exact lv_aload hx hb hdg (am_lv_at hl hy) (goN hnx hw wd hl)
        · exact hw.elim
      | istore_n x0 =>
        simp only [am_chk, Bool.and_eq_true, decide_eq_true_eq] at hck
        dsimp only [am_step] at hw
        obtain ⟨hdg, rfl, hnx⟩ := hck
        split at hw
        · unfold am_sto at hw
          split at hw
          · rename_i ls' hy
            exact lv_istore_n hx hb hdg rfl hl.1 (am_lv_st hl hy).1 rfl (fun lsC' hl' => goN hnx hw wd ((am_lv_st hl hy).2 lsC' hl'))
          · exact hw.elim
        · exact hw.elim
      | istore x0 =>
        simp only [am_chk, Bool.and_eq_true, decide_eq_true_eq] at hck
        dsimp only [am_step] at hw
        obtain ⟨hdg, rfl, hnx⟩ := hck
        split at hw
        · unfold am_sto at hw
          split at hw
          · rename_i ls' hy
            exact lv_istore hx hb hdg hl.1 (am_lv_st hl hy).1 rfl (fun lsC' hl' => goN hnx hw wd ((am_lv_st hl hy).2 lsC' hl'))
          · exact hw.elim
        · exact hw.elim
      | astore_n x0 =>
        simp only [am_chk, Bool.and_eq_true, decide_eq_true_eq] at hck
        dsimp only [am_step] at hw
        obtain ⟨hdg, rfl, hnx⟩ := hck
        split at hw
        · rename_i y r
          unfold am_sto at hw
          split at hw
          · rename_i ls' hy
            cases y with
            | none => exact lv_astore_nN hx hb hdg rfl hl.1 (am_lv_st hl hy).1 rfl (fun lsC' hl' => goN hnx hw wd ((am_lv_st hl hy).2 lsC' hl'))
            | some y => exact lv_astore_n hx hb hdg rfl hl.1 (am_lv_st hl hy).1 rfl (fun lsC' hl' => goN hnx hw wd ((am_lv_st hl hy).2 lsC' hl'))
          · exact hw.elim
        · exact hw.elim
      | iinc x0 n0 =>
        simp only [am_chk, Bool.and_eq_true, decide_eq_true_eq] at hck
        dsimp only [am_step] at hw
        obtain ⟨hdg, rfl, hnx⟩ := hck
        unfold am_ldI at hw
        split at hw
        · rename_i y hy
          unfold am_sto at hw
          split at hw
          · rename_i ls' hy2
            have hm := am_al_mem (ad := ad) ls 0 x0 _ hy
            rw [Nat.zero_add] at hm
            obtain ⟨kk, hkk⟩ := List.getElem?_of_mem hm
            exact lv_iinc hx hb hdg hl.1 hkk (am_add y n0) (am_lv_st hl hy2).1 rfl (fun lsC' hl' => goN hnx hw wd ((am_lv_st hl hy2).2 lsC' hl'))
          · exact hw.elim
        · exact hw.elim
      | iadd =>
        simp only [am_chk, Bool.and_eq_true, decide_eq_true_eq] at hck
        dsimp only [am_step] at hw
        obtain ⟨hdg, rfl, hnx⟩ := hck
        split at hw
        · refine lv_iadd hx hb hdg ?_
          rw [am_add]
          exact goN hnx hw wd hl
        · exact hw.elim
      | isub =>
        simp only [am_chk, Bool.and_eq_true, decide_eq_true_eq] at hck
        dsimp only [am_step] at hw
        obtain ⟨hdg, rfl, hnx⟩ := hck
        split at hw
        · refine lv_isub hx hb hdg ?_
          rw [am_sub]
          exact goN hnx hw wd hl
        · exact hw.elim
      | imul =>
        simp only [am_chk, Bool.and_eq_true, decide_eq_true_eq] at hck
        dsimp only [am_step] at hw
        obtain ⟨hdg, rfl, hnx⟩ := hck
        split at hw
        · refine lv_imul hx hb hdg ?_
          rw [am_mul]
          exact goN hnx hw wd hl
        · exact hw.elim
      | ineg =>
        simp only [am_chk, Bool.and_eq_true, decide_eq_true_eq] at hck
        dsimp only [am_step] at hw
        obtain ⟨hdg, rfl, hnx⟩ := hck
        split at hw
        · refine lv_ineg hx hb hdg ?_
          rw [am_neg]
          exact goN hnx hw wd hl
        · exact hw.elim
      | idiv =>
        simp only [am_chk, Bool.and_eq_true, decide_eq_true_eq] at hck
        dsimp only [am_step] at hw
        obtain ⟨hdg, rfl, hnx⟩ := hck
        split at hw
        · obtain ⟨⟨h1, h2⟩, hw⟩ := hw
          refine lv_idiv hx hb hdg (am_ne0 h2) ?_
          rw [am_div h1 h2]
          exact goN hnx hw wd hl
        · exact hw.elim
      | irem =>
        simp only [am_chk, Bool.and_eq_true, decide_eq_true_eq] at hck
        dsimp only [am_step] at hw
        obtain ⟨hdg, rfl, hnx⟩ := hck
        split at hw
        · obtain ⟨⟨h1, h2⟩, hw⟩ := hw
          refine lv_irem hx hb hdg (am_ne0 h2) ?_
          rw [am_rem h1 h2]
          exact goN hnx hw wd hl
        · exact hw.elim
      | iand =>
        simp only [am_chk, Bool.and_eq_true, decide_eq_true_eq] at hck
        dsimp only [am_step] at hw
        obtain ⟨hdg, rfl, hnx⟩ := hck
        split at hw
        · refine lv_iand hx hb hdg ?_
          have := goN hnx hw wd hl
          simp only [List.map_cons, am_c, am_and_eq, am_ofI] at this
          exact this
        · exact hw.elim
      | ior =>
        simp only [am_chk, Bool.and_eq_true, decide_eq_true_eq] at hck
        dsimp only [am_step] at hw
        obtain ⟨hdg, rfl, hnx⟩ := hck
        split at hw
        · refine lv_ior hx hb hdg ?_
          have := goN hnx hw wd hl
          simp only [List.map_cons, am_c, am_or_eq, am_ofI] at this
          exact this
        · exact hw.elim
      | ixor =>
        simp only [am_chk, Bool.and_eq_true, decide_eq_true_eq] at hck
        dsimp only [am_step] at hw
        obtain ⟨hdg, rfl, hnx⟩ := hck
        split at hw
        · refine lv_ixor hx hb hdg ?_
          have := goN hnx hw wd hl
          simp only [List.map_cons, am_c, am_xor_eq, am_ofI] at this
          exact this
        · exact hw.elim
      | ishl =>
        simp only [am_chk, Bool.and_eq_true, decide_eq_true_eq] at hck
        dsimp only [am_step] at hw
        obtain ⟨hdg, rfl, hnx⟩ := hck
        split at hw
        · refine lv_ishl hx hb hdg ?_
          have := goN hnx hw wd hl
          simp only [List.map_cons, am_c, am_shl_eq, am_ofI] at this
          exact this
        · exact hw.elim
      | ishr =>
        simp only [am_chk, Bool.and_eq_true, decide_eq_true_eq] at hck
        dsimp only [am_step] at hw
        obtain ⟨hdg, rfl, hnx⟩ := hck
        split at hw
        · refine lv_ishr hx hb hdg ?_
          have := goN hnx hw wd hl
          simp only [List.map_cons, am_c, am_shr_eq, am_ofI] at this
          exact this
        · exact hw.elim
      | iushr =>
        simp only [am_chk, Bool.and_eq_true, decide_eq_true_eq] at hck
        dsimp only [am_step] at hw
        obtain ⟨hdg, rfl, hnx⟩ := hck
        split at hw
        · refine lv_iushr hx hb hdg rfl ?_
          have := goN hnx hw wd hl
          simp only [List.map_cons, am_c, am_ushr_eq, am_ofI] at this
          exact this
        · exact hw.elim
      | i2l =>
        simp only [am_chk, Bool.and_eq_true, decide_eq_true_eq] at hck
        dsimp only [am_step] at hw
        obtain ⟨hdg, rfl, hnx⟩ := hck
        split at hw
        · exact lv_i2l hx hb hdg (am_i2l_eq _).symm (goN hnx hw wd hl)
        · exact hw.elim
      | l2i =>
        simp only [am_chk, Bool.and_eq_true, decide_eq_true_eq] at hck
        dsimp only [am_step] at hw
        obtain ⟨hdg, rfl, hnx⟩ := hck
        split at hw
        · refine lv_l2i hx hb hdg rfl ?_
          have := goN hnx hw wd hl
          simp only [List.map_cons, am_c, am_l2i_eq, am_ofI] at this
          exact this
        · exact hw.elim
      | lcmp =>
        simp only [am_chk, Bool.and_eq_true, decide_eq_true_eq] at hck
        dsimp only [am_step] at hw
        obtain ⟨hdg, rfl, hnx⟩ := hck
        split at hw
        · refine W.lcmp hx hb hdg ?_
          rw [← am_lcmp_eq]
          exact goN hnx hw wd hl
        · exact hw.elim
      | land =>
        simp only [am_chk, Bool.and_eq_true, decide_eq_true_eq] at hck
        dsimp only [am_step] at hw
        obtain ⟨hdg, rfl, hnx⟩ := hck
        split at hw
        · exact lv_land hx hb hdg (goN hnx hw wd hl)
        · exact hw.elim
      | lor =>
        simp only [am_chk, Bool.and_eq_true, decide_eq_true_eq] at hck
        dsimp only [am_step] at hw
        obtain ⟨hdg, rfl, hnx⟩ := hck
        split at hw
        · exact lv_lor hx hb hdg (goN hnx hw wd hl)
        · exact hw.elim
      | lxor =>
        simp only [am_chk, Bool.and_eq_true, decide_eq_true_eq] at hck
        dsimp only [am_step] at hw
        obtain ⟨hdg, rfl, hnx⟩ := hck
        split at hw
        · exact lv_lxor hx hb hdg (goN hnx hw wd hl)
        · exact hw.elim
      | lshl =>
        simp only [am_chk, Bool.and_eq_true, decide_eq_true_eq] at hck
        dsimp only [am_step] at hw
        obtain ⟨hdg, rfl, hnx⟩ := hck
        split at hw
        · exact lv_lshl hx hb hdg (am_lshl_eq _ _).symm (goN hnx hw wd hl)
        · exact hw.elim
      | lshr =>
        simp only [am_chk, Bool.and_eq_true, decide_eq_true_eq] at hck
        dsimp only [am_step] at hw
        obtain ⟨hdg, rfl, hnx⟩ := hck
        split at hw
        · exact lv_lshr hx hb hdg (am_lshr_eq _ _).symm (goN hnx hw wd hl)
        · exact hw.elim
      | lushr =>
        simp only [am_chk, Bool.and_eq_true, decide_eq_true_eq] at hck
        dsimp only [am_step] at hw
        obtain ⟨hdg, rfl, hnx⟩ := hck
        split at hw
        · exact lv_lushr hx hb hdg (am_lushr_eq _ _).symm (goN hnx hw wd hl)
        · exact hw.elim
      | dup =>
        simp only [am_chk, Bool.and_eq_true, decide_eq_true_eq] at hck
        dsimp only [am_step] at hw
        obtain ⟨hdg, rfl, hnx⟩ := hck
        split at hw
        · exact lv_dup hx hb hdg rfl (goN hnx hw wd hl)
        · rename_i y r
          cases y with
          | none => exact lv_dup hx hb hdg rfl (goN hnx hw wd hl)
          | some y => exact lv_dup hx hb hdg rfl (goN hnx hw wd hl)
        · exact hw.elim
      | dup2 =>
        simp only [am_chk, Bool.and_eq_true, decide_eq_true_eq] at hck
        dsimp only [am_step] at hw
        obtain ⟨hdg, rfl, hnx⟩ := hck
        split at hw
        · rename_i y z r
          cases z with
          | none => exact lv_dup2_11 hx hb hdg rfl rfl (goN hnx hw wd hl)
          | some z => exact lv_dup2_11 hx hb hdg rfl rfl (goN hnx hw wd hl)
        · exact hw.elim
      | getfield x0 =>
        simp only [am_chk, Bool.and_eq_true, decide_eq_true_eq] at hck
        dsimp only [am_step] at hw
        obtain ⟨hdg, ⟨rfl, hnx⟩, hck⟩ := hck
        split at hck
        · rename_i C T N hcl
          simp only [Bool.and_eq_true, decide_eq_true_eq] at hck
          obtain ⟨⟨hk, hC⟩, hlink⟩ := hck
          obtain ⟨hci, hin, -, -⟩ := am_cls hcl
          split at hw
          · rename_i c0 r
            unfold am_gf at hw
            split at hw
            · rename_i ci fks hlay
              by_cases hcc : ci = a
              · subst hcc
                rw [if_pos rfl] at hw
                have he0 := am_w_at ad cA h (am_lay_obj hlay hci)
                rw [am_en_obj hlay] at he0
                split at hw
                · rename_i hf
                  have hv0 := am_fv_n ad h c0 fks 0 b hf
                  rw [Nat.zero_add] at hv0
                  exact va_get hx hb hts hin hown hK wd.1 c0 he0 hcl b hk (hts _ (am_at_mem hlink)) (fun y h9 => by rw [hC] at h9; exact h9) hv0 hdg (goN hnx hw wd hl)
                · rename_i t hf
                  have hv0 := am_fv_s ad h c0 t fks 0 b hf
                  exact va_get hx hb hts hin hown hK wd.1 c0 he0 hcl b hk (hts _ (am_at_mem hlink)) (fun y h9 => by rw [hC] at h9; exact h9) hv0 hdg (goN hnx hw wd hl)
                · exact hw.elim
              · rw [if_neg hcc] at hw; exact hw.elim
            · exact hw.elim
          · exact hw.elim
        · cases hck
      | putfield x0 =>
        simp only [am_chk, Bool.and_eq_true, decide_eq_true_eq] at hck
        dsimp only [am_step] at hw
        obtain ⟨hdg, ⟨rfl, hnx⟩, hck⟩ := hck
        split at hck
        · rename_i C T N hcl
          simp only [Bool.and_eq_true, decide_eq_true_eq] at hck
          obtain ⟨⟨⟨⟨hk, hC⟩, hlink⟩, hfin⟩, hty⟩ := hck
          obtain ⟨hci, hin, ⟨ty0, hty0⟩, hnm⟩ := am_cls hcl
          split at hw
          · rename_i y c0 r
            unfold am_pf at hw
            split at hw
            · rename_i ci fks hlay
              by_cases hcc : ci = a
              · subst hcc
                rw [if_pos rfl] at hw
                have hc0 := am_lay_obj hlay hci
                have he0 := am_w_at ad cA h hc0
                rw [am_en_obj hlay] at he0
                split at hw
                · rename_i hf
                  obtain ⟨hz, hw⟩ := hw
                  have hnf : narrow (if v = 1 then .boolean else .int) (.int (Int32.ofInt y)) = .int (Int32.ofInt y) ∧ fits (if v = 1 then .boolean else .int) (.int (Int32.ofInt y)) = true := by
                    by_cases hv : v = 1
                    · rw [if_pos hv]; exact ⟨(am_zb (hz hv)).1, (am_zb (hz hv)).2.1⟩
                    · rw [if_neg hv]; exact am_ib _
                  have hset : (am_w ad cA h).set c0 (ad c0, .inr (ci, (am_fv ad h c0 0 fks).set b (.int (Int32.ofInt y)))) = am_w ad cA (am_up h c0 b y) := by
                    rw [am_fv_set ad h c0 y fks 0 b hf, Nat.zero_add, ← am_en_obj (cA := cA) hlay]
                    exact am_w_set hc0 am_up_off
                  refine va_put (v := .int (Int32.ofInt y)) hx hb hts hin ty0 hty0 hnm hown hK wd.1 wd.2.1 wd.2.2 c0 he0 hcl b hk (hts _ (am_at_mem hlink)) (fun y h9 => by rw [hC] at h9; exact h9) hfin hty hnf.1 hnf.2 (by rw [am_fv_len]; exact am_nth_lt hf) hdg (fun H1 locs1 hP1 hD1 hS1 => ?_)
                  rw [hset] at hP1 hD1
                  exact goN hnx hw ⟨hP1, hD1, hS1⟩ hl
                · exact hw.elim
              · rw [if_neg hcc] at hw; exact hw.elim
            · exact hw.elim
          · exact hw.elim
        · cases hck
      | iaload =>
        simp only [am_chk, Bool.and_eq_true, decide_eq_true_eq] at hck
        dsimp only [am_step] at hw
        obtain ⟨hdg, rfl, hnx⟩ := hck
        split at hw
        · rename_i y c0 r
          unfold am_ar at hw
          split at hw
          · rename_i ty' n0 hlay
            by_cases ht : ty' = .int
            · subst ht
              rw [if_pos rfl] at hw
              obtain ⟨hi, hw⟩ := hw
              obtain ⟨hc0, hn0⟩ := am_lay_arr hlay
              have he0 := am_w_at ad cA h (show c0 < 87 by omega)
              rw [am_en_int hlay] at he0
              have ht0 := am_ty_at cA hc0
              rw [am_ety_of hlay] at ht0
              have e1 : (((Int32.ofInt y).toNatClampNeg : Nat) : Int) = y := by rw [am_clamp ⟨by omega, by omega⟩]; omega
              refine va_iald hx hb hK wd.1 c0 c0 he0 ht0 (am_vpin hi (by omega)) hdg ?_
              show W p l e R s mm args below meth c H locs 0 0 _ (F0 mm (pc + 1) lsC (.int (Int32.ofInt (h c0 (((Int32.ofInt y).toNatClampNeg : Nat) : Int))) :: _))
              rw [e1]
              exact goN hnx hw wd hl
            · rw [if_neg ht] at hw; exact hw.elim
          · exact hw.elim
        · exact hw.elim
      | baload =>
        simp only [am_chk, Bool.and_eq_true, decide_eq_true_eq] at hck
        dsimp only [am_step] at hw
        obtain ⟨hdg, rfl, hnx⟩ := hck
        split at hw
        · rename_i y c0 r
          unfold am_ar at hw
          split at hw
          · rename_i ty' n0 hlay
            by_cases ht : ty' = .boolean
            · subst ht
              rw [if_pos rfl] at hw
              obtain ⟨hi, hw⟩ := hw
              obtain ⟨hc0, hn0⟩ := am_lay_arr hlay
              have he0 := am_w_at ad cA h (show c0 < 87 by omega)
              rw [am_en_bool hlay] at he0
              have ht0 := am_ty_at cA hc0
              rw [am_ety_of hlay] at ht0
              have e1 : (((Int32.ofInt y).toNatClampNeg : Nat) : Int) = y := by rw [am_clamp ⟨by omega, by omega⟩]; omega
              refine va_zald hx hb hK wd.1 c0 c0 he0 ht0 (am_vpin hi (by omega)) hdg ?_
              show W p l e R s mm args below meth c H locs 0 0 _ (F0 mm (pc + 1) lsC (.int (Int32.ofInt (h c0 (((Int32.ofInt y).toNatClampNeg : Nat) : Int))) :: _))
              rw [e1]
              exact goN hnx hw wd hl
            · rw [if_neg ht] at hw; exact hw.elim
          · exact hw.elim
        · exact hw.elim
      | laload =>
        simp only [am_chk, Bool.and_eq_true, decide_eq_true_eq] at hck
        dsimp only [am_step] at hw
        obtain ⟨hdg, rfl, hnx⟩ := hck
        split at hw
        · rename_i y c0 r
          unfold am_ar at hw
          split at hw
          · rename_i ty' n0 hlay
            by_cases ht : ty' = .long
            · subst ht
              rw [if_pos rfl] at hw
              obtain ⟨hi, hw⟩ := hw
              obtain ⟨hc0, hn0⟩ := am_lay_arr hlay
              have he0 := am_w_at ad cA h (show c0 < 87 by omega)
              rw [am_en_long hlay] at he0
              have ht0 := am_ty_at cA hc0
              rw [am_ety_of hlay] at ht0
              have e1 : (((Int32.ofInt y).toNatClampNeg : Nat) : Int) = y := by rw [am_clamp ⟨by omega, by omega⟩]; omega
              refine va_lald hx hb hK wd.1 c0 c0 he0 ht0 (am_vpin hi (by omega)) hdg ?_
              show W p l e R s mm args below meth c H locs 0 0 _ (F0 mm (pc + 1) lsC (.long (Int64.ofInt (h c0 (((Int32.ofInt y).toNatClampNeg : Nat) : Int))) :: _))
              rw [e1]
              exact goN hnx hw wd hl
            · rw [if_neg ht] at hw; exact hw.elim
          · exact hw.elim
        · exact hw.elim
      | iastore =>
        simp only [am_chk, Bool.and_eq_true, decide_eq_true_eq] at hck
        dsimp only [am_step] at hw
        obtain ⟨hdg, rfl, hnx⟩ := hck
        split at hw
        · rename_i z y c0 r
          unfold am_ar at hw
          split at hw
          · rename_i ty' n0 hlay
            by_cases ht : ty' = .int
            · subst ht
              rw [if_pos rfl] at hw
              obtain ⟨hi, hw⟩ := hw
              obtain ⟨hc0, hn0⟩ := am_lay_arr hlay
              have he0 := am_w_at ad cA h (show c0 < 87 by omega)
              rw [am_en_int hlay] at he0
              have ht0 := am_ty_at cA hc0
              rw [am_ety_of hlay] at ht0
              have hu := am_up_f (h := h) (c := c0) (x := z) hi.1
              have hset : (am_w ad cA h).set c0 (ad c0, .inl (cA c0, n0, .inl (upd (fun j : Nat => Int32.ofInt (h c0 j)) (Int32.ofInt y).toNatClampNeg (Int32.ofInt z)))) = am_w ad cA (am_up h c0 y z) := by
                rw [am_clamp (show am_R y from ⟨by omega, by omega⟩), ← hu, ← am_en_int (ad := ad) (cA := cA) hlay]
                exact am_w_set (by omega) am_up_off
              refine va_iast hx hb hK wd.1 wd.2.1 wd.2.2 c0 c0 he0 ht0 (am_vpin hi (by omega)) hdg (fun H1 locs1 hP1 hD1 hS1 => ?_)
              rw [hset] at hP1 hD1
              exact goN hnx hw ⟨hP1, hD1, hS1⟩ hl
            · rw [if_neg ht] at hw; exact hw.elim
          · exact hw.elim
        · exact hw.elim
      | bastore =>
        simp only [am_chk, Bool.and_eq_true, decide_eq_true_eq] at hck
        dsimp only [am_step] at hw
        obtain ⟨hdg, rfl, hnx⟩ := hck
        split at hw
        · rename_i z y c0 r
          unfold am_ar at hw
          split at hw
          · rename_i ty' n0 hlay
            by_cases ht : ty' = .boolean
            · subst ht
              rw [if_pos rfl] at hw
              obtain ⟨hi, hw⟩ := hw
              obtain ⟨hc0, hn0⟩ := am_lay_arr hlay
              have he0 := am_w_at ad cA h (show c0 < 87 by omega)
              rw [am_en_bool hlay] at he0
              have ht0 := am_ty_at cA hc0
              rw [am_ety_of hlay] at ht0
              have hu := am_up_f (h := h) (c := c0) (x := z) hi.1
              have hset : (am_w ad cA h).set c0 (ad c0, .inl (cA c0, n0, .inl (upd (fun j : Nat => Int32.ofInt (h c0 j)) (Int32.ofInt y).toNatClampNeg (vp_nar .boolean (Int32.ofInt z))))) = am_w ad cA (am_up h c0 y z) := by
                rw [am_clamp (show am_R y from ⟨by omega, by omega⟩), (am_zb hi.2.2).2.2, ← hu, ← am_en_bool (ad := ad) (cA := cA) hlay]
                exact am_w_set (by omega) am_up_off
              refine va_zast hx hb hK wd.1 wd.2.1 wd.2.2 c0 c0 he0 ht0 (am_vpin ⟨hi.1, hi.2.1⟩ (by omega)) hdg (fun H1 locs1 hP1 hD1 hS1 => ?_)
              rw [hset] at hP1 hD1
              exact goN hnx hw ⟨hP1, hD1, hS1⟩ hl
            · rw [if_neg ht] at hw; exact hw.elim
          · exact hw.elim
        · exact hw.elim
      | lastore =>
        simp only [am_chk, Bool.and_eq_true, decide_eq_true_eq] at hck
        dsimp only [am_step] at hw
        obtain ⟨hdg, rfl, hnx⟩ := hck
        split at hw
        · rename_i z y c0 r
          unfold am_ar at hw
          split at hw
          · rename_i ty' n0 hlay
            by_cases ht : ty' = .long
            · subst ht
              rw [if_pos rfl] at hw
              obtain ⟨hi, hw⟩ := hw
              obtain ⟨hc0, hn0⟩ := am_lay_arr hlay
              have he0 := am_w_at ad cA h (show c0 < 87 by omega)
              rw [am_en_long hlay] at he0
              have ht0 := am_ty_at cA hc0
              rw [am_ety_of hlay] at ht0
              have hu := am_up_l (h := h) (c := c0) (x := z) hi.1
              have hset : (am_w ad cA h).set c0 (ad c0, .inl (cA c0, n0, .inr (.inl (vp_updL (fun j : Nat => Int64.ofInt (h c0 j)) (Int32.ofInt y).toNatClampNeg z)))) = am_w ad cA (am_up h c0 y z.toInt) := by
                rw [am_clamp (show am_R y from ⟨by omega, by omega⟩), ← hu, ← am_en_long (ad := ad) (cA := cA) hlay]
                exact am_w_set (by omega) am_up_off
              refine va_last hx hb hK wd.1 wd.2.1 wd.2.2 c0 c0 he0 ht0 (am_vpin hi (by omega)) hdg (fun H1 locs1 hP1 hD1 hS1 => ?_)
              rw [hset] at hP1 hD1
              exact goN hnx hw ⟨hP1, hD1, hS1⟩ hl
            · rw [if_neg ht] at hw; exact hw.elim
          · exact hw.elim
        · exact hw.elim
      | arraylength =>
        simp only [am_chk, Bool.and_eq_true, decide_eq_true_eq] at hck
        dsimp only [am_step] at hw
        obtain ⟨hdg, rfl, hnx⟩ := hck
        split at hw
        · rename_i c0 r
          unfold am_al0 at hw
          split at hw
          · rename_i ty' n0 hlay
            obtain ⟨hc0, hn0⟩ := am_lay_arr hlay
            have he0 := am_w_at ad cA h (show c0 < 87 by omega)
            have ht0 := am_ty_at cA hc0
            have hen : ∃ f, am_en ad cA h c0 = .inl (cA c0, n0, f) := by
              unfold am_en
              rw [hlay]
              split
              · rename_i heq; cases heq; exact ⟨_, rfl⟩
              · rename_i heq; cases heq; exact ⟨_, rfl⟩
              · rename_i heq; cases heq
            obtain ⟨f, hf⟩ := hen
            rw [hf] at he0
            exact va_alen hx hb hK wd.1 c0 c0 he0 ht0 (am_cast n0).symm hdg (goN hnx hw wd hl)
          · exact hw.elim
        · exact hw.elim
      | ifCond cd x0 =>
        simp only [am_chk, Bool.and_eq_true, decide_eq_true_eq] at hck
        dsimp only [am_step] at hw
        obtain ⟨hdg, ⟨rfl, hnx⟩, hck⟩ := hck
        split at hck
        · rename_i t
          simp only [am_jt, decide_eq_true_eq] at hck
          split at hw
          · obtain ⟨hRx, hw⟩ := hw
            obtain ⟨hwt, hwf⟩ := (show _ ∧ _ from hw)
            cases cd with
            | eq => exact lv_if_eq hx hb hdg hck (fun q => goJ (hwt ((am_eq hRx am_R0).mp (by rw [am_of0]; exact q))) wd hl) (fun q => goN hnx (hwf (fun z => q (by rw [← am_of0]; exact (am_eq hRx am_R0).mpr z))) wd hl)
            | ne => exact lv_if_ne hx hb hdg hck (fun q => goJ (hwt (fun z => q (by rw [← am_of0]; exact (am_eq hRx am_R0).mpr z))) wd hl) (fun q => goN hnx (hwf (fun z => z ((am_eq hRx am_R0).mp (by rw [am_of0]; exact q)))) wd hl)
            | lt => exact lv_if_lt hx hb hdg hck (fun q => goJ (hwt ((am_lt hRx am_R0).mp (by rw [am_of0]; exact q))) wd hl) (fun q => goN hnx (hwf (fun z => q (by rw [← am_of0]; exact (am_lt hRx am_R0).mpr z))) wd hl)
            | ge => exact lv_if_ge hx hb hdg hck (fun q => goJ (hwt ((am_le am_R0 hRx).mp (by rw [am_of0]; exact q))) wd hl) (fun q => goN hnx (hwf (fun z => q (by rw [← am_of0]; exact (am_le am_R0 hRx).mpr z))) wd hl)
            | gt => exact lv_if_gt hx hb hdg hck (fun q => goJ (hwt ((am_lt am_R0 hRx).mp (by rw [am_of0]; exact q))) wd hl) (fun q => goN hnx (hwf (fun z => q (by rw [← am_of0]; exact (am_lt am_R0 hRx).mpr z))) wd hl)
            | le => exact lv_if_le hx hb hdg hck (fun q => goJ (hwt ((am_le hRx am_R0).mp (by rw [am_of0]; exact q))) wd hl) (fun q => goN hnx (hwf (fun z => q (by rw [← am_of0]; exact (am_le hRx am_R0).mpr z))) wd hl)
          · exact hw.elim
        · cases hck
      | if_icmp cd x0 =>
        simp only [am_chk, Bool.and_eq_true, decide_eq_true_eq] at hck
        dsimp only [am_step] at hw
        obtain ⟨hdg, ⟨rfl, hnx⟩, hck⟩ := hck
        split at hck
        · rename_i t
          simp only [am_jt, decide_eq_true_eq] at hck
          split at hw
          · obtain ⟨⟨hRx, hRy⟩, hw⟩ := hw
            obtain ⟨hwt, hwf⟩ := (show _ ∧ _ from hw)
            cases cd with
            | eq => exact lv_icmp_eq hx hb hdg hck (fun q => goJ (hwt ((am_eq hRx hRy).mp q)) wd hl) (fun q => goN hnx (hwf (fun z => q ((am_eq hRx hRy).mpr z))) wd hl)
            | ne => exact lv_icmp_ne hx hb hdg hck (fun q => goJ (hwt (fun z => q ((am_eq hRx hRy).mpr z))) wd hl) (fun q => goN hnx (hwf (fun z => z ((am_eq hRx hRy).mp q))) wd hl)
            | lt => exact lv_icmp_lt hx hb hdg hck (fun q => goJ (hwt ((am_lt hRx hRy).mp q)) wd hl) (fun q => goN hnx (hwf (fun z => q ((am_lt hRx hRy).mpr z))) wd hl)
            | ge => exact lv_icmp_ge hx hb hdg hck (fun q => goJ (hwt ((am_le hRy hRx).mp q)) wd hl) (fun q => goN hnx (hwf (fun z => q ((am_le hRy hRx).mpr z))) wd hl)
            | gt => exact lv_icmp_gt hx hb hdg hck (fun q => goJ (hwt ((am_lt hRy hRx).mp q)) wd hl) (fun q => goN hnx (hwf (fun z => q ((am_lt hRy hRx).mpr z))) wd hl)
            | le => exact lv_icmp_le hx hb hdg hck (fun q => goJ (hwt ((am_le hRx hRy).mp q)) wd hl) (fun q => goN hnx (hwf (fun z => q ((am_le hRx hRy).mpr z))) wd hl)
          · exact hw.elim
        · cases hck
      | ifnonnull x0 =>
        simp only [am_chk, Bool.and_eq_true, decide_eq_true_eq] at hck
        dsimp only [am_step] at hw
        obtain ⟨hdg, ⟨rfl, hnx⟩, hck⟩ := hck
        split at hck
        · rename_i t
          simp only [am_jt, decide_eq_true_eq] at hck
          split at hw
          · exact lv_ifnonnull hx hb hdg hck (goJ hw wd hl)
          · exact lv_ifnonnullN hx hb hdg (goN hnx hw wd hl)
          · exact hw.elim
        · cases hck
      | goto x0 =>
        simp only [am_chk, Bool.and_eq_true, decide_eq_true_eq] at hck
        dsimp only [am_step] at hw
        obtain ⟨hdg, rfl, hck⟩ := hck
        split at hck
        · rename_i t
          simp only [am_jt, decide_eq_true_eq] at hck
          exact lv_goto hx hb hdg hck (goJ hw wd hl)
        · cases hck
      | tableswitch d0 lo hi offs =>
        simp only [am_chk, Bool.and_eq_true, decide_eq_true_eq] at hck
        dsimp only [am_step] at hw
        obtain ⟨hdg, ⟨rfl, rfl⟩, hck⟩ := hck
        split at hck
        · rename_i dt ts
          simp only [Bool.and_eq_true, am_jt, decide_eq_true_eq] at hck
          rcases st with _ | ⟨y | y, r⟩
          · exact (show False from hw).elim
          · obtain ⟨hRx, hw⟩ := (show am_R y ∧ am_sw y lo ts dt _ from hw)
            obtain ⟨g1, g2⟩ := am_sw_spec _ _ hw
            obtain ⟨g3, g4⟩ := am_jts_spec _ _ hck.2
            have hyI := am_toI hRx
            rw [Array.length_toList] at g3
            by_cases hin : y < lo ∨ lo + (offs.size : Int) - 1 < y
            · exact lv_tableOut hx hb hdg (by rw [hyI]; exact hin) hck.1 (goJ (g2 (by omega)) wd hl)
            · have hj : (y - lo).toNat < offs.size := by omega
              obtain ⟨t, ht1, ht2⟩ := g4 (y - lo).toNat (offs[(y - lo).toNat]) (by rw [Array.getElem?_toList]; exact Array.getElem?_eq_getElem hj)
              exact lv_tableIn hx hb hdg (by rw [hyI]; omega) (by rw [hyI]; omega) (by rw [hyI]; exact Array.getElem?_eq_getElem hj) ht2 (goJ (g1 _ t ht1 (by omega)) wd hl)
          · exact (show False from hw).elim
        · cases hck
      | ireturn =>
        simp only [am_chk, Bool.and_eq_true, decide_eq_true_eq] at hck
        dsimp only [am_step] at hw
        obtain ⟨hdg, rfl, hrt⟩ := hck
        split at hw
        · rename_i y
          obtain ⟨hz, hw⟩ := hw
          by_cases ha : a = 1
          · rw [if_pos ha] at hrt
            exact W.zret hx hb (hr.trans hrt) (am_zb (hz ha)).1 (hq (o := some (.inl y)) hw wd) wd.2.2.2.2 hdg hlk
          · rw [if_neg ha] at hrt
            exact W.iret hx hb (hr.trans hrt) (hq (o := some (.inl y)) hw wd) wd.2.2.2.2 hdg hlk
        · exact hw.elim
      | areturn =>
        simp only [am_chk, Bool.and_eq_true, decide_eq_true_eq] at hck
        dsimp only [am_step] at hw
        obtain ⟨hdg, rfl, hrt⟩ := hck
        split at hw
        · rename_i y
          exact W.aret hx hb (hr.trans hrt) (Or.inl ⟨_, rfl⟩) (by cases y with | none => exact Or.inl rfl | some y => exact Or.inr ⟨_, rfl⟩) (hq (o := some (.inr (.inr y))) hw wd) wd.2.2.2.2 hdg hlk
        · exact hw.elim
      | return_ =>
        simp only [am_chk, Bool.and_eq_true, decide_eq_true_eq] at hck
        dsimp only [am_step] at hw
        obtain ⟨hdg, rfl, hrt⟩ := hck
        split at hw
        · exact W.vret hx hb (hr.trans hrt) (hq (o := none) hw wd) wd.2.2.2.2 hdg hlk
        · exact hw.elim
      | invokevirtual x0 =>
        simp only [am_chk, Bool.and_eq_true, decide_eq_true_eq] at hck
        dsimp only [am_step] at hw
        obtain ⟨hdg, ⟨⟨⟨⟨⟨rfl, hnx⟩, hss⟩, hbn⟩, hrmk⟩, hlink⟩⟩ := hck
        split at hw
        · rename_i as r htk
          obtain ⟨hcat, hw⟩ := hw
          obtain ⟨bs, hb1, rfl, hb2⟩ := am_tk_spec _ _ _ _ _ htk
          rw [List.append_nil] at hb1
          have hss' : am_ss a = false := by simpa using hss
          unfold am_rc at hw
          rw [hss'] at hw
          simp only [Bool.false_eq_true, if_false] at hw
          split at hw
          · rename_i c0 tl
            split at hw
            · rename_i ci fks hlay
              by_cases hcc : ci = am_oc a
              · rw [if_pos hcc] at hw
                by_cases hca : am_cat (.inr (.inr (some c0)) :: tl) ≤ am_ml a
                · rw [if_pos hca] at hw
                  have hMj : am_mk a := by
                    cases n with
                    | zero => exact hw.elim
                    | succ n' =>
                      rw [am_wp] at hw
                      cases he' : am_nth (am_code a) 0 with
                      | none => rw [he'] at hw; exact hw.elim
                      | some e' => exact am_mk_of he'
                  have hMet := am_met_of ih ad cA D H.size hMj hca hw
                  obtain ⟨k1, k2, k3, k4, k5, k6, k7, -, -⟩ := hMj
                  rw [hss'] at k3
                  simp only [Bool.false_eq_true, if_false] at k3
                  simp only [am_rmk, Bool.and_eq_true, decide_eq_true_eq] at hrmk
                  have hst : List.map (am_c ad) (bs ++ r) = (tl.map (am_c ad)).reverse ++ .ref (ad c0) :: r.map (am_c ad) := by
                    have : bs = tl.reverse ++ [.inr (.inr (some c0))] := by
                      rw [← List.reverse_reverse bs, ← hb1]; simp
                    rw [this]; simp [am_c]
                  rw [hst]
                  have hcl : ∃ q, am_cl[am_oc a]? = some q ∧ q.1 = (am_y a).cls := by
                    cases hq0 : am_cl[am_oc a]? with
                    | none => rw [hq0] at k3; simp at k3
                    | some q => rw [hq0] at k3; exact ⟨q, rfl, by simpa using k3.2.2⟩
                  obtain ⟨⟨qC, qT, qN⟩, hq1, hq2⟩ := hcl
                  have hci8 := (am_cls hq1).1
                  have he0 := am_w_at ad cA h (am_lay_obj hlay (by rw [hcc]; exact hci8))
                  rw [am_en_obj hlay, hcc] at he0
                  have hlen : tl.length = am_np a := by
                    have : bs.length = (tl.reverse ++ [Sum.inr (Sum.inr (some c0))] : List am_V).length := by
                      rw [← List.length_reverse (as := bs), ← hb1]; simp
                    simp at this
                    omega
                  have hrc := va_recv hK wd.1 hq1 he0
                  rw [hq2] at hrc
                  refine am_callc (h := h) (va_runV (As := tl.map (am_c ad)) (rest := r.map (am_c ad)) (nL := am_ml m) (Ts := am_tb) (own := (am_y m).cls) ⟨hx, hb, hml, hown, hts⟩ hMet
                    ⟨⟨rfl, rfl, Nat.le_trans hrmk.1 hRf, Nat.le_trans hrmk.2 hRl, pay_in hts (fun w hw => am_tb_good (by rcases List.mem_cons.mp hw with rfl | hw; exact k1; exact hw)), List.mem_cons_self, hts _ k1, hts _ k2, ⟨k5, k6⟩, fun sig hsg => by rw [hsg] at k7; exact (Option.some.inj k7).symm, hts _ (am_at_mem hlink)⟩, hts _ k3.1, hts _ k3.2.1⟩
                    ⟨am_Pc_blind, hrc, fun U hU hW => ⟨rfl, by rw [hU], by rw [hU]; exact wd.1, va_K.moved hW.alike hK, am_D_any wd.2.1 (fun _ _ _ => trivial), va_Nw.warmM hW hN⟩⟩
                    rfl (by rw [List.length_map]; exact hlen) hl.1.1 rfl (lv_room (by rw [am_cat_eq]; exact hcat)) hdg ⟨Nat.zero_le _, Nat.zero_le _⟩) wd hA (fun o h' H' locs' hQ wd' => ?_)
                  cases o with
                  | none => exact goN hnx hQ wd' hl
                  | some y => exact goN hnx hQ wd' hl
                · rw [if_neg hca] at hw; exact hw.elim
              · rw [if_neg hcc] at hw; exact hw.elim
            · exact hw.elim
          · exact hw.elim
        · exact hw.elim
      | invokestatic x0 =>
        simp only [am_chk, Bool.and_eq_true, decide_eq_true_eq] at hck
        dsimp only [am_step] at hw
        obtain ⟨hdg, ⟨rfl, hnx⟩, hck⟩ := hck
        by_cases ha9 : a = 999
        · rw [if_pos ha9] at hck hw
          simp only [Bool.and_eq_true, decide_eq_true_eq] at hck
          obtain ⟨⟨hlink, hF1⟩, hL1⟩ := hck
          unfold am_copy at hw
          split at hw
          · rename_i n0 dp d0 sp s0 r
            unfold am_ar at hw
            split at hw
            · rename_i ty1 ns hlay1
              by_cases ht1 : ty1 = .int
              · subst ht1
                rw [if_pos rfl] at hw
                split at hw
                · rename_i ty2 nd hlay2
                  by_cases ht2 : ty2 = .int
                  · subst ht2
                    rw [if_pos rfl] at hw
                    obtain ⟨⟨i1, i2, i3, i4, i5⟩, hcat, hw⟩ := hw
                    obtain ⟨hs0, hns⟩ := am_lay_arr hlay1
                    obtain ⟨hd0, hnd⟩ := am_lay_arr hlay2
                    have he1 := am_w_at ad cA h (show s0 < 87 by omega)
                    rw [am_en_int hlay1] at he1
                    have he2 := am_w_at ad cA h (show d0 < 87 by omega)
                    rw [am_en_int hlay2] at he2
                    have t1 := am_ty_at cA hs0
                    rw [am_ety_of hlay1] at t1
                    have t2 := am_ty_at cA hd0
                    rw [am_ety_of hlay2] at t2
                    have R1 : am_R sp := ⟨by omega, by omega⟩
                    have R2 : am_R dp := ⟨by omega, by omega⟩
                    have R3 : am_R n0 := ⟨by omega, by omega⟩
                    have neg : ∀ {x : Int}, am_R x → 0 ≤ x → ¬ Int32.ofInt x < 0 := fun hR h0 q => by rw [← am_of0, am_lt hR am_R0] at q; omega
                    have hset : (am_w ad cA h).set d0 (ad d0, .inl (cA d0, nd, .inl (va_cpy (fun j : Nat => Int32.ofInt (h s0 j)) (fun j : Nat => Int32.ofInt (h d0 j)) (Int32.ofInt sp).toNatClampNeg (Int32.ofInt dp).toNatClampNeg (Int32.ofInt n0).toNatClampNeg))) = am_w ad cA (am_cp h s0 sp d0 dp n0) := by
                      have hf : (fun j : Nat => Int32.ofInt (am_cp h s0 sp d0 dp n0 d0 j)) = va_cpy (fun j : Nat => Int32.ofInt (h s0 j)) (fun j : Nat => Int32.ofInt (h d0 j)) (Int32.ofInt sp).toNatClampNeg (Int32.ofInt dp).toNatClampNeg (Int32.ofInt n0).toNatClampNeg := by
                        funext j
                        rw [am_clamp R1, am_clamp R2, am_clamp R3]
                        unfold am_cp va_cpy
                        by_cases hj : dp ≤ j ∧ (j : Int) < dp + n0
                        · rw [if_pos ⟨rfl, hj⟩, if_pos ⟨by omega, by omega⟩]
                          congr 2
                          omega
                        · rw [if_neg (fun q => hj q.2), if_neg (fun q => hj ⟨by omega, by omega⟩)]
                      rw [← hf, ← am_en_int (ad := ad) (cA := cA) hlay2]
                      exact am_w_set (by omega) (fun c' hc' i' => if_neg (fun q => hc' q.1))
                    refine va_copyi hx hb (hml.trans hl.1.1.symm) hown (hts _ (am_at_mem hlink)) (hts _ am_copyW.1) (hts _ am_copyW.2.1) (hts _ am_copyW.2.2) hK wd.1 wd.2.1 wd.2.2 s0 d0 s0 d0 he1 he2 t1 t2 rfl (neg R1 i1) (neg R2 i2) (neg R3 i3)
                      (by rw [am_clamp R1, am_clamp R3]; omega) (by rw [am_clamp R2, am_clamp R3]; omega) (fun _ _ => rfl) (Nat.le_trans hF1 hRf) (by rw [am_cat_eq]; show am_cat r + (7 + 11) ≤ _; omega) hdg (fun H1 locs1 hP1 hD1 hS1 => ?_)
                    rw [hset] at hP1 hD1
                    exact goN hnx hw ⟨hP1, hD1, hS1⟩ hl
                  · rw [if_neg ht2] at hw; exact hw.elim
                · exact hw.elim
              · rw [if_neg ht1] at hw; exact hw.elim
            · exact hw.elim
          · exact hw.elim
        · rw [if_neg ha9] at hck hw
          simp only [Bool.and_eq_true, decide_eq_true_eq] at hck
          obtain ⟨⟨⟨hss, hbn⟩, hrmk⟩, hlink⟩ := hck
          split at hw
          · rename_i as r htk
            obtain ⟨hcat, hw⟩ := hw
            obtain ⟨bs, hb1, rfl, hb2⟩ := am_tk_spec _ _ _ _ _ htk
            rw [List.append_nil] at hb1
            unfold am_rc at hw
            rw [if_pos hss] at hw
            by_cases hca : am_cat as ≤ am_ml a
            · rw [if_pos hca] at hw
              have hMj : am_mk a := by
                cases n with
                | zero => exact hw.elim
                | succ n' =>
                  rw [am_wp] at hw
                  cases he' : am_nth (am_code a) 0 with
                  | none => rw [he'] at hw; exact hw.elim
                  | some e' => exact am_mk_of he'
              have hMet := am_met_of ih ad cA D H.size hMj hca hw
              obtain ⟨k1, k2, k3, k4, k5, k6, k7, -, -⟩ := hMj
              rw [if_pos hss] at k3
              simp only [am_rmk, Bool.and_eq_true, decide_eq_true_eq] at hrmk
              have hst : List.map (am_c ad) (bs ++ r) = (as.map (am_c ad)).reverse ++ r.map (am_c ad) := by
                rw [hb1]; simp
              rw [hst]
              have hlen : as.length = am_np a := by rw [hb1, List.length_reverse, hb2, hbn]
              by_cases hv : v = 1
              · rw [if_pos hv] at hlink
                simp only [Bool.and_eq_true, decide_eq_true_eq] at hlink
                obtain ⟨⟨l1, l2⟩, l3⟩ := hlink
                refine am_callc (h := h) (va_runSN (host := RX6) (As := as.map (am_c ad)) (rest := r.map (am_c ad)) (nL := am_ml m) (Ts := am_tb) (own := (am_y m).cls) ⟨hx, hb, hml, hown, hts⟩ hMet
                  ⟨⟨⟨rfl, rfl, Nat.le_trans hrmk.1 hRf, Nat.le_trans hrmk.2 hRl, pay_in hts (fun w hw => am_tb_good (by rcases List.mem_cons.mp hw with rfl | hw; exact k1; exact hw)), List.mem_cons_self⟩, hts _ k1, hts _ k2, ⟨k5, k6⟩, fun sig hsg => by rw [hsg] at k7; exact (Option.some.inj k7).symm, by rw [l1, l2, l3]; exact va_Nw.use rfl hN⟩, hts _ k3, trivial⟩
                  ⟨am_Pc_blind, fun U hU hW => ⟨rfl, by rw [hU], by rw [hU]; exact wd.1, va_K.moved hW.alike hK, am_D_any wd.2.1 (fun _ _ _ => trivial), va_Nw.warmM hW hN⟩⟩
                  rfl (by rw [List.length_map]; exact hlen) hl.1.1 rfl (lv_room (by rw [am_cat_eq]; exact hcat)) hdg ⟨Nat.zero_le _, Nat.zero_le _⟩) wd hA (fun o h' H' locs' hQ wd' => ?_)
                cases o with
                | none => exact goN hnx hQ wd' hl
                | some y => exact goN hnx hQ wd' hl
              · rw [if_neg hv] at hlink
                refine am_callc (h := h) (va_runS (As := as.map (am_c ad)) (rest := r.map (am_c ad)) (nL := am_ml m) (Ts := am_tb) (own := (am_y m).cls) ⟨hx, hb, hml, hown, hts⟩ hMet
                  ⟨⟨rfl, rfl, Nat.le_trans hrmk.1 hRf, Nat.le_trans hrmk.2 hRl, pay_in hts (fun w hw => am_tb_good (by rcases List.mem_cons.mp hw with rfl | hw; exact k1; exact hw)), List.mem_cons_self, hts _ k1, hts _ k2, ⟨k5, k6⟩, fun sig hsg => by rw [hsg] at k7; exact (Option.some.inj k7).symm, hts _ (am_at_mem hlink)⟩, hts _ k3⟩
                  ⟨am_Pc_blind, fun U hU hW => ⟨rfl, by rw [hU], by rw [hU]; exact wd.1, va_K.moved hW.alike hK, am_D_any wd.2.1 (fun _ _ _ => trivial), va_Nw.warmM hW hN⟩⟩
                  rfl (by rw [List.length_map]; exact hlen) hl.1.1 rfl (lv_room (by rw [am_cat_eq]; exact hcat)) hdg ⟨Nat.zero_le _, Nat.zero_le _⟩) wd hA (fun o h' H' locs' hQ wd' => ?_)
                cases o with
                | none => exact goN hnx hQ wd' hl
                | some y => exact goN hnx hQ wd' hl
            · rw [if_neg hca] at hw; exact hw.elim
          · exact hw.elim
      | _ => exact (show False from hw).elim
