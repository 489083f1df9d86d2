set_option maxHeartbeats 4000000 in
set_option maxRecDepth 100000 in
theorem m_Rows_isBelow (l : Launch) (dC : Nat → ClassId) (dI : Nat → Nat → Nat) (kI kZ : ClassId) (x0 x1 : Int32) : Met l yRw_isBelow wsRw_isBelow ({ frames := 0, cells := 0, slots := 0, locals := 0 }) (r_Pc dC dI kI kZ [.int x0, .int x1] []) (r_Qc (f_Rows_isBelow x0 x1)) 0 0 (fun _ => False) := by
  refine Met.ofW (cc := cRw_isBelow) (maxL := 2) (ret := (some .boolean)) (by decide) rfl ?_
  intro p e s m args below meth c s₁ B hml hv
  obtain ⟨rfl, hP, hX⟩ := hv
  have hK := hX.1
  have hx := B.exec
  have hb := B.bytes
  have hr := B.returns
  have hts := atoms_spec (ws := wsRw_isBelow) B.pre
  have hown : s.vm.findClass RRw = some m.cls := findClass_of_methodNamed B.named
  have hlocks := B.notSynchronized
  have hS : va_S (fun _ => False) s.heap s.heap [] := va_S.rf
  have hP : va_P (dC, dI) vwCl [] s.heap := hP
  have hl := lv_entry ([.int x0, .int x1]) (n := 2) (Nat.le_of_ble_eq_true rfl)
  rw [lg_entry_eq]
  generalize (lg_sl ([.int x0, .int x1]) ++ List.replicate (2 - (lg_sl ([.int x0, .int x1])).length) Slot.unset).toArray = ls at hl ⊢
  have hl : lv_has ls 2 [(0, .int x0), (1, .int x1)] := hl
  refine lv_iload_n hx hb dRw_isBelow_0 rfl (lv_at hl 0 rfl) ?_
  refine lv_if_lt (tgt := 13) hx hb dRw_isBelow_1 (by decide) (fun c_1 => ?_) (fun c_1 => ?_)
  · refine lv_iconst (v := 0) hx hb dRw_isBelow_13 (by decide) ?_
    exact W.zret (v := 0) hx hb hr rfl (fun t ht hW => ⟨⟨_, (), rfl, (show 0 = f_Rows_isBelow x0 x1 from by unfold f_Rows_isBelow; rw [if_pos c_1]), trivial⟩, hS.F ht⟩) hS.2.2 dRw_isBelow_14
  · refine lv_iload_n hx hb dRw_isBelow_4 rfl (lv_at hl 0 rfl) ?_
    refine lv_iload_n hx hb dRw_isBelow_5 rfl (lv_at hl 1 rfl) ?_
    refine lv_icmp_ge (tgt := 13) hx hb dRw_isBelow_6 (by decide) (fun c_2 => ?_) (fun c_2 => ?_)
    · refine lv_iconst (v := 0) hx hb dRw_isBelow_13 (by decide) ?_
      exact W.zret (v := 0) hx hb hr rfl (fun t ht hW => ⟨⟨_, (), rfl, (show 0 = f_Rows_isBelow x0 x1 from by unfold f_Rows_isBelow; rw [if_neg c_1, if_pos c_2]), trivial⟩, hS.F ht⟩) hS.2.2 dRw_isBelow_14
    · refine lv_iconst (v := 1) hx hb dRw_isBelow_9 (by decide) ?_
      refine lv_goto (tgt := 14) hx hb dRw_isBelow_10 (by decide) ?_
      exact W.zret (v := 1) hx hb hr rfl (fun t ht hW => ⟨⟨_, (), rfl, (show 1 = f_Rows_isBelow x0 x1 from by unfold f_Rows_isBelow; rw [if_neg c_1, if_neg c_2]), trivial⟩, hS.F ht⟩) hS.2.2 dRw_isBelow_14
set_option maxHeartbeats 4000000 in
set_option maxRecDepth 100000 in
theorem m_Tree_init (l : Launch) (dC : Nat → ClassId) (dI : Nat → Nat → Nat) (kI kZ : ClassId) (sz : Nat) (h0 : Nat) : Met l yTr_init wsTr_init ({ frames := 1, cells := 3, slots := 126, locals := 12 }) (w_Pc dC dI kI kZ sz [.ref h0] [(h0, .inr (0, [.null, .null, .null, .int 0]))]) (c_Qv dC dI (fun u => w_Tree kI kZ h0 (u 1) (u 2) (u 3) f_Tree_init) (fun _ => True) [(h0, .inr (0, [.null, .null, .null, .int 0]))] sz) 3 126 (va_A [(h0, .inr (0, [.null, .null, .null, .int 0]))] sz) := by
  refine Met.ofW (cc := cTr_init) (maxL := 1) (ret := none) (by decide) rfl ?_
  intro p e s m args below meth c s₁ B hml hv
  obtain ⟨rfl, hsz, hP, hX, hD0⟩ := hv
  have hK := hX.1
  have hx := B.exec
  have hb := B.bytes
  have hr := B.returns
  have hts := atoms_spec (ws := wsTr_init) B.pre
  have hown : s.vm.findClass RTr = some m.cls := findClass_of_methodNamed B.named
  have hlocks := B.notSynchronized
  have hin : meth.name = "<init>" := (name_of_methodNamed B.named B.method).1
  subst hsz
  have hD := hD0.self (sz := s.heap.size)
  unfold c_Qv
  generalize hAe : va_A [(h0, .inr (0, [.null, .null, .null, .int 0]))] s.heap.size = A at hD ⊢
  have hA : ∀ q : Nat, s.heap.size ≤ q → A q := fun q h => by rw [← hAe]; exact Or.inr h
  have hS : va_S A s.heap s.heap [] := va_S.rf
  have hP : va_P (dC, dI) vwCl [(h0, .inr (0, [.null, .null, .null, .int 0]))] s.heap := hP
  have hD : va_D A [(h0, .inr (0, [.null, .null, .null, .int 0]))] := hD
  have hl := lv_entry ([.ref h0]) (n := 1) (Nat.le_of_ble_eq_true rfl)
  rw [lg_entry_eq]
  generalize (lg_sl ([.ref h0]) ++ List.replicate (1 - (lg_sl ([.ref h0])).length) Slot.unset).toArray = ls at hl ⊢
  have hl : lv_has ls 1 [(0, .ref h0)] := hl
  refine lv_aload_n hx hb dTr_init_0 rfl (lv_at hl 0 rfl) ?_
  refine W.objInit hx hb hown (hts (.methodLink RTr 3 objectInit) (by decide +kernel)) (hts (.instanceMethod objectInit) (by decide +kernel)) (hts _ (List.mem_of_getElem? (i := 3) rfl)) rfl (by rw [hml]; exact hl.1) rfl dTr_init_1 (Nat.le_of_ble_eq_true rfl) (Nat.le_of_ble_eq_true rfl) ?_
  refine W.eq (g2 := F0 m 4 ls []) rfl ?_
  refine lv_aload_n hx hb dTr_init_4 rfl (lv_at hl 0 rfl) ?_
  refine lv_bipush (v := 61) hx hb dTr_init_5 (by decide) ?_
  refine xx_newi hx hb (hts (.arrayClass .int) (by decide +kernel)) hK hP hD hS hA (N := 61) (by decide) (by decide) (by decide) (Nat.le_of_ble_eq_true rfl) (Nat.le_of_ble_eq_true rfl) dTr_init_7 (fun q7 H hP hD hS => ?_)
  have hP : va_P (dC, dI) vwCl [(h0, .inr (0, [.null, .null, .null, .int 0])), (q7, .inl (kI, 61, .inl (fun _ => 0)))] H := hP
  have hD : va_D A [(h0, .inr (0, [.null, .null, .null, .int 0])), (q7, .inl (kI, 61, .inl (fun _ => 0)))] := hD
  refine va_putF (D := (dC, dI)) (ci := 0) (v := .ref q7) (ty := .array .int) (C := RTr) (T := TTr) (N := 4) hx hb hts (by decide +kernel) tyTr tyTr_ok nmTr hown hK hP hD hS 0 rfl rfl 0 (by decide) (hts (.fieldLink RTr 9 "DeclarativeRows$Tree" "names" "[I") (by decide +kernel)) (fun _ h9 => h9) rfl hin rfl (by decide +kernel) rfl rfl (Nat.le_of_ble_eq_true rfl) dTr_init_9 (fun H locs hP hD hS => ?_)
  have hP : va_P (dC, dI) vwCl [(h0, .inr (0, [.ref q7, .null, .null, .int 0])), (q7, .inl (kI, 61, .inl (fun _ => 0)))] H := hP
  have hD : va_D A [(h0, .inr (0, [.ref q7, .null, .null, .int 0])), (q7, .inl (kI, 61, .inl (fun _ => 0)))] := hD
  refine lv_aload_n hx hb dTr_init_12 rfl (lv_at hl 0 rfl) ?_
  refine lv_bipush (v := 61) hx hb dTr_init_13 (by decide) ?_
  refine xx_newi hx hb (hts (.arrayClass .int) (by decide +kernel)) hK hP hD hS hA (N := 61) (by decide) (by decide) (by decide) (Nat.le_of_ble_eq_true rfl) (Nat.le_of_ble_eq_true rfl) dTr_init_15 (fun q15 H hP hD hS => ?_)
  have hP : va_P (dC, dI) vwCl [(h0, .inr (0, [.ref q7, .null, .null, .int 0])), (q7, .inl (kI, 61, .inl (fun _ => 0))), (q15, .inl (kI, 61, .inl (fun _ => 0)))] H := hP
  have hD : va_D A [(h0, .inr (0, [.ref q7, .null, .null, .int 0])), (q7, .inl (kI, 61, .inl (fun _ => 0))), (q15, .inl (kI, 61, .inl (fun _ => 0)))] := hD
  refine va_putF (D := (dC, dI)) (ci := 0) (v := .ref q15) (ty := .array .int) (C := RTr) (T := TTr) (N := 4) hx hb hts (by decide +kernel) tyTr tyTr_ok nmTr hown hK hP hD hS 0 rfl rfl 1 (by decide) (hts (.fieldLink RTr 15 "DeclarativeRows$Tree" "parents" "[I") (by decide +kernel)) (fun _ h9 => h9) rfl hin rfl (by decide +kernel) rfl rfl (Nat.le_of_ble_eq_true rfl) dTr_init_17 (fun H locs hP hD hS => ?_)
  have hP : va_P (dC, dI) vwCl [(h0, .inr (0, [.ref q7, .ref q15, .null, .int 0])), (q7, .inl (kI, 61, .inl (fun _ => 0))), (q15, .inl (kI, 61, .inl (fun _ => 0)))] H := hP
  have hD : va_D A [(h0, .inr (0, [.ref q7, .ref q15, .null, .int 0])), (q7, .inl (kI, 61, .inl (fun _ => 0))), (q15, .inl (kI, 61, .inl (fun _ => 0)))] := hD
  refine lv_aload_n hx hb dTr_init_20 rfl (lv_at hl 0 rfl) ?_
  refine lv_iconst (v := 4) hx hb dTr_init_21 (by decide) ?_
  refine xx_newi hx hb (hts (.arrayClass .int) (by decide +kernel)) hK hP hD hS hA (N := 4) (by decide) (by decide) (by decide) (Nat.le_of_ble_eq_true rfl) (Nat.le_of_ble_eq_true rfl) dTr_init_22 (fun q22 H hP hD hS => ?_)
  have hP : va_P (dC, dI) vwCl [(h0, .inr (0, [.ref q7, .ref q15, .null, .int 0])), (q7, .inl (kI, 61, .inl (fun _ => 0))), (q15, .inl (kI, 61, .inl (fun _ => 0))), (q22, .inl (kI, 4, .inl (fun _ => 0)))] H := hP
  have hD : va_D A [(h0, .inr (0, [.ref q7, .ref q15, .null, .int 0])), (q7, .inl (kI, 61, .inl (fun _ => 0))), (q15, .inl (kI, 61, .inl (fun _ => 0))), (q22, .inl (kI, 4, .inl (fun _ => 0)))] := hD
  refine va_putF (D := (dC, dI)) (ci := 0) (v := .ref q22) (ty := .array .int) (C := RTr) (T := TTr) (N := 4) hx hb hts (by decide +kernel) tyTr tyTr_ok nmTr hown hK hP hD hS 0 rfl rfl 2 (by decide) (hts (.fieldLink RTr 18 "DeclarativeRows$Tree" "latestOfLevel" "[I") (by decide +kernel)) (fun _ h9 => h9) rfl hin rfl (by decide +kernel) rfl rfl (Nat.le_of_ble_eq_true rfl) dTr_init_24 (fun H locs hP hD hS => ?_)
  have hP : va_P (dC, dI) vwCl [(h0, .inr (0, [.ref q7, .ref q15, .ref q22, .int 0])), (q7, .inl (kI, 61, .inl (fun _ => 0))), (q15, .inl (kI, 61, .inl (fun _ => 0))), (q22, .inl (kI, 4, .inl (fun _ => 0)))] H := hP
  have hD : va_D A [(h0, .inr (0, [.ref q7, .ref q15, .ref q22, .int 0])), (q7, .inl (kI, 61, .inl (fun _ => 0))), (q15, .inl (kI, 61, .inl (fun _ => 0))), (q22, .inl (kI, 4, .inl (fun _ => 0)))] := hD
  refine lv_aload_n hx hb dTr_init_27 rfl (lv_at hl 0 rfl) ?_
  refine lv_iconst (v := 0) hx hb dTr_init_28 (by decide) ?_
  refine va_put (D := (dC, dI)) (ci := 0) (v := .int 0) (ty := .int) (C := RTr) (T := TTr) (N := 4) hx hb hts (by decide +kernel) tyTr tyTr_ok nmTr hown hK hP hD hS 0 rfl rfl 3 (by decide) (hts (.fieldLink RTr 21 "DeclarativeRows$Tree" "size" "I") (by decide +kernel)) (fun _ h9 => h9) rfl (by decide +kernel) rfl rfl (Nat.le_of_ble_eq_true rfl) dTr_init_29 (fun H locs hP hD hS => ?_)
  have hP : va_P (dC, dI) vwCl [(h0, .inr (0, [.ref q7, .ref q15, .ref q22, .int 0])), (q7, .inl (kI, 61, .inl (fun _ => 0))), (q15, .inl (kI, 61, .inl (fun _ => 0))), (q22, .inl (kI, 4, .inl (fun _ => 0)))] H := hP
  have hD : va_D A [(h0, .inr (0, [.ref q7, .ref q15, .ref q22, .int 0])), (q7, .inl (kI, 61, .inl (fun _ => 0))), (q15, .inl (kI, 61, .inl (fun _ => 0))), (q22, .inl (kI, 4, .inl (fun _ => 0)))] := hD
  refine W.widen (k := 3) (n := 126) (Nat.le_of_ble_eq_true rfl) (Nat.le_of_ble_eq_true rfl) ?_
  exact W.vret hx hb hr (fun t ht hW => ⟨⟨(fun k => [h0, q7, q15, q22].getD k 0), rfl, trivial, by rw [ht]; exact hP, hD⟩, hS.F ht⟩) hS.2.2 dTr_init_32
set_option maxHeartbeats 4000000 in
set_option maxRecDepth 100000 in
theorem m_Tree_size (l : Launch) (dC : Nat → ClassId) (dI : Nat → Nat → Nat) (kI kZ : ClassId) (a0 a1 a2 a3 : Nat) (S : S_Tree) : Met l yTr_size wsTr_size ({ frames := 0, cells := 0, slots := 0, locals := 0 }) (r_Pc dC dI kI kZ [.ref a0] (w_Tree kI kZ a0 a1 a2 a3 S)) (r_Qc (f_Tree_size S)) 0 0 (fun _ => False) := by
  refine Met.ofW (cc := cTr_size) (maxL := 1) (ret := (some .int)) (by decide) rfl ?_
  intro p e s m args below meth c s₁ B hml hv
  obtain ⟨rfl, hP, hX⟩ := hv
  have hK := hX.1
  have hx := B.exec
  have hb := B.bytes
  have hr := B.returns
  have hts := atoms_spec (ws := wsTr_size) B.pre
  have hown : s.vm.findClass RTr = some m.cls := findClass_of_methodNamed B.named
  have hlocks := B.notSynchronized
  have hS : va_S (fun _ => False) s.heap s.heap [] := va_S.rf
  have hP : va_P (dC, dI) vwCl [(a0, .inr (0, [.ref a1, .ref a2, .ref a3, .int S.2.2.2])), (a1, .inl (kI, 61, .inl S.1)), (a2, .inl (kI, 61, .inl S.2.1)), (a3, .inl (kI, 4, .inl S.2.2.1))] s.heap := hP
  have hl := lv_entry ([.ref a0]) (n := 1) (Nat.le_of_ble_eq_true rfl)
  rw [lg_entry_eq]
  generalize (lg_sl ([.ref a0]) ++ List.replicate (1 - (lg_sl ([.ref a0])).length) Slot.unset).toArray = ls at hl ⊢
  have hl : lv_has ls 1 [(0, .ref a0)] := hl
  refine lv_aload_n hx hb dTr_size_0 rfl (lv_at hl 0 rfl) ?_
  refine va_get (D := (dC, dI)) (ci := 0) (v := .int S.2.2.2) (C := RTr) (T := TTr) (N := 4) hx hb hts (by decide +kernel) hown hK hP 0 rfl rfl 3 (by decide) (hts (.fieldLink RTr 21 "DeclarativeRows$Tree" "size" "I") (by decide +kernel)) (fun _ h9 => h9) rfl dTr_size_1 ?_
  exact W.iret (v := S.2.2.2) hx hb hr (fun t ht hW => ⟨⟨_, (), rfl, (show S.2.2.2 = f_Tree_size S from rfl), trivial⟩, hS.F ht⟩) hS.2.2 dTr_size_4
set_option maxHeartbeats 4000000 in
set_option maxRecDepth 100000 in
theorem m_Tree_has (l : Launch) (dC : Nat → ClassId) (dI : Nat → Nat → Nat) (kI kZ : ClassId) (a0 a1 a2 a3 : Nat) (S : S_Tree) (x1 : Int32) : Met l yTr_has wsTr_has ({ frames := 0, cells := 0, slots := 0, locals := 0 }) (r_Pc dC dI kI kZ [.ref a0, .int x1] (w_Tree kI kZ a0 a1 a2 a3 S)) (r_Qc (f_Tree_has S x1)) 0 0 (fun _ => False) := by
  refine Met.ofW (cc := cTr_has) (maxL := 2) (ret := (some .boolean)) (by decide) rfl ?_
  intro p e s m args below meth c s₁ B hml hv
  obtain ⟨rfl, hP, hX⟩ := hv
  have hK := hX.1
  have hx := B.exec
  have hb := B.bytes
  have hr := B.returns
  have hts := atoms_spec (ws := wsTr_has) B.pre
  have hown : s.vm.findClass RTr = some m.cls := findClass_of_methodNamed B.named
  have hlocks := B.notSynchronized
  have hS : va_S (fun _ => False) s.heap s.heap [] := va_S.rf
  have hP : va_P (dC, dI) vwCl [(a0, .inr (0, [.ref a1, .ref a2, .ref a3, .int S.2.2.2])), (a1, .inl (kI, 61, .inl S.1)), (a2, .inl (kI, 61, .inl S.2.1)), (a3, .inl (kI, 4, .inl S.2.2.1))] s.heap := hP
  have hl := lv_entry ([.ref a0, .int x1]) (n := 2) (Nat.le_of_ble_eq_true rfl)
  rw [lg_entry_eq]
  generalize (lg_sl ([.ref a0, .int x1]) ++ List.replicate (2 - (lg_sl ([.ref a0, .int x1])).length) Slot.unset).toArray = ls at hl ⊢
  have hl : lv_has ls 2 [(0, .ref a0), (1, .int x1)] := hl
  refine lv_iload_n hx hb dTr_has_0 rfl (lv_at hl 1 rfl) ?_
  refine lv_iconst (v := 1) hx hb dTr_has_1 (by decide) ?_
  refine lv_icmp_lt (tgt := 26) hx hb dTr_has_2 (by decide) (fun c_1 => ?_) (fun c_1 => ?_)
  · refine lv_iconst (v := 0) hx hb dTr_has_26 (by decide) ?_
    exact W.zret (v := 0) hx hb hr rfl (fun t ht hW => ⟨⟨_, (), rfl, (show 0 = f_Tree_has S x1 from by unfold f_Tree_has; rw [if_pos c_1]), trivial⟩, hS.F ht⟩) hS.2.2 dTr_has_27
  · refine lv_iload_n hx hb dTr_has_5 rfl (lv_at hl 1 rfl) ?_
    refine lv_aload_n hx hb dTr_has_6 rfl (lv_at hl 0 rfl) ?_
    refine va_get (D := (dC, dI)) (ci := 0) (v := .int S.2.2.2) (C := RTr) (T := TTr) (N := 4) hx hb hts (by decide +kernel) hown hK hP 0 rfl rfl 3 (by decide) (hts (.fieldLink RTr 21 "DeclarativeRows$Tree" "size" "I") (by decide +kernel)) (fun _ h9 => h9) rfl dTr_has_7 ?_
    refine lv_icmp_gt (tgt := 26) hx hb dTr_has_10 (by decide) (fun c_2 => ?_) (fun c_2 => ?_)
    · refine lv_iconst (v := 0) hx hb dTr_has_26 (by decide) ?_
      exact W.zret (v := 0) hx hb hr rfl (fun t ht hW => ⟨⟨_, (), rfl, (show 0 = f_Tree_has S x1 from by unfold f_Tree_has; rw [if_neg c_1, if_pos c_2]), trivial⟩, hS.F ht⟩) hS.2.2 dTr_has_27
    · refine lv_iload_n hx hb dTr_has_13 rfl (lv_at hl 1 rfl) ?_
      refine lv_aload_n hx hb dTr_has_14 rfl (lv_at hl 0 rfl) ?_
      refine va_get (D := (dC, dI)) (ci := 0) (v := .ref a1) (C := RTr) (T := TTr) (N := 4) hx hb hts (by decide +kernel) hown hK hP 0 rfl rfl 0 (by decide) (hts (.fieldLink RTr 9 "DeclarativeRows$Tree" "names" "[I") (by decide +kernel)) (fun _ h9 => h9) rfl dTr_has_15 ?_
      refine va_alen (v := 61) hx hb hK hP 1 0 rfl rfl rfl dTr_has_18 ?_
      refine lv_icmp_ge (tgt := 26) hx hb dTr_has_19 (by decide) (fun c_3 => ?_) (fun c_3 => ?_)
      · refine lv_iconst (v := 0) hx hb dTr_has_26 (by decide) ?_
        exact W.zret (v := 0) hx hb hr rfl (fun t ht hW => ⟨⟨_, (), rfl, (show 0 = f_Tree_has S x1 from by unfold f_Tree_has; rw [if_neg c_1, if_neg c_2, if_pos c_3]), trivial⟩, hS.F ht⟩) hS.2.2 dTr_has_27
      · refine lv_iconst (v := 1) hx hb dTr_has_22 (by decide) ?_
        refine lv_goto (tgt := 27) hx hb dTr_has_23 (by decide) ?_
        exact W.zret (v := 1) hx hb hr rfl (fun t ht hW => ⟨⟨_, (), rfl, (show 1 = f_Tree_has S x1 from by unfold f_Tree_has; rw [if_neg c_1, if_neg c_2, if_neg c_3]), trivial⟩, hS.F ht⟩) hS.2.2 dTr_has_27
set_option maxHeartbeats 4000000 in
set_option maxRecDepth 100000 in
theorem m_Tree_latestOf (l : Launch) (dC : Nat → ClassId) (dI : Nat → Nat → Nat) (kI kZ : ClassId) (a0 a1 a2 a3 : Nat) (S : S_Tree) (x1 : Int32) : Met l yTr_latestOf wsTr_latestOf ({ frames := 0, cells := 0, slots := 0, locals := 0 }) (r_Pc dC dI kI kZ [.ref a0, .int x1] (w_Tree kI kZ a0 a1 a2 a3 S)) (r_Qc (f_Tree_latestOf S x1)) 0 0 (fun _ => False) := by
  refine Met.ofW (cc := cTr_latestOf) (maxL := 2) (ret := (some .int)) (by decide) rfl ?_
  intro p e s m args below meth c s₁ B hml hv
  obtain ⟨rfl, hP, hX⟩ := hv
  have hK := hX.1
  have hx := B.exec
  have hb := B.bytes
  have hr := B.returns
  have hts := atoms_spec (ws := wsTr_latestOf) B.pre
  have hown : s.vm.findClass RTr = some m.cls := findClass_of_methodNamed B.named
  have hlocks := B.notSynchronized
  have hS : va_S (fun _ => False) s.heap s.heap [] := va_S.rf
  have hP : va_P (dC, dI) vwCl [(a0, .inr (0, [.ref a1, .ref a2, .ref a3, .int S.2.2.2])), (a1, .inl (kI, 61, .inl S.1)), (a2, .inl (kI, 61, .inl S.2.1)), (a3, .inl (kI, 4, .inl S.2.2.1))] s.heap := hP
  have hl := lv_entry ([.ref a0, .int x1]) (n := 2) (Nat.le_of_ble_eq_true rfl)
  rw [lg_entry_eq]
  generalize (lg_sl ([.ref a0, .int x1]) ++ List.replicate (2 - (lg_sl ([.ref a0, .int x1])).length) Slot.unset).toArray = ls at hl ⊢
  have hl : lv_has ls 2 [(0, .ref a0), (1, .int x1)] := hl
  refine lv_iload_n hx hb dTr_latestOf_0 rfl (lv_at hl 1 rfl) ?_
  refine lv_iconst (v := 1) hx hb dTr_latestOf_1 (by decide) ?_
  refine lv_icmp_lt (tgt := 23) hx hb dTr_latestOf_2 (by decide) (fun c_1 => ?_) (fun c_1 => ?_)
  · refine lv_iconst (v := 0) hx hb dTr_latestOf_23 (by decide) ?_
    exact W.iret (v := 0) hx hb hr (fun t ht hW => ⟨⟨_, (), rfl, (show 0 = f_Tree_latestOf S x1 from by unfold f_Tree_latestOf; rw [if_pos c_1]), trivial⟩, hS.F ht⟩) hS.2.2 dTr_latestOf_24
  · refine lv_iload_n hx hb dTr_latestOf_5 rfl (lv_at hl 1 rfl) ?_
    refine lv_aload_n hx hb dTr_latestOf_6 rfl (lv_at hl 0 rfl) ?_
    refine va_get (D := (dC, dI)) (ci := 0) (v := .ref a3) (C := RTr) (T := TTr) (N := 4) hx hb hts (by decide +kernel) hown hK hP 0 rfl rfl 2 (by decide) (hts (.fieldLink RTr 18 "DeclarativeRows$Tree" "latestOfLevel" "[I") (by decide +kernel)) (fun _ h9 => h9) rfl dTr_latestOf_7 ?_
    refine va_alen (v := 4) hx hb hK hP 3 0 rfl rfl rfl dTr_latestOf_10 ?_
    refine lv_icmp_ge (tgt := 23) hx hb dTr_latestOf_11 (by decide) (fun c_2 => ?_) (fun c_2 => ?_)
    · refine lv_iconst (v := 0) hx hb dTr_latestOf_23 (by decide) ?_
      exact W.iret (v := 0) hx hb hr (fun t ht hW => ⟨⟨_, (), rfl, (show 0 = f_Tree_latestOf S x1 from by unfold f_Tree_latestOf; rw [if_neg c_1, if_pos c_2]), trivial⟩, hS.F ht⟩) hS.2.2 dTr_latestOf_24
    · refine lv_aload_n hx hb dTr_latestOf_14 rfl (lv_at hl 0 rfl) ?_
      refine va_get (D := (dC, dI)) (ci := 0) (v := .ref a3) (C := RTr) (T := TTr) (N := 4) hx hb hts (by decide +kernel) hown hK hP 0 rfl rfl 2 (by decide) (hts (.fieldLink RTr 18 "DeclarativeRows$Tree" "latestOfLevel" "[I") (by decide +kernel)) (fun _ h9 => h9) rfl dTr_latestOf_15 ?_
      refine lv_iload_n hx hb dTr_latestOf_18 rfl (lv_at hl 1 rfl) ?_
      refine va_iald hx hb hK hP 3 0 rfl rfl (i := x1) (in_of1 (by decide) c_1 c_2) dTr_latestOf_19 ?_
      refine lv_goto (tgt := 24) hx hb dTr_latestOf_20 (by decide) ?_
      exact W.iret (v := (S.2.2.1 x1.toNatClampNeg)) hx hb hr (fun t ht hW => ⟨⟨_, (), rfl, (show (S.2.2.1 x1.toNatClampNeg) = f_Tree_latestOf S x1 from by unfold f_Tree_latestOf; rw [if_neg c_1, if_neg c_2]), trivial⟩, hS.F ht⟩) hS.2.2 dTr_latestOf_24
set_option maxHeartbeats 4000000 in
set_option maxRecDepth 100000 in
theorem m_Tree_add (l : Launch) (dC : Nat → ClassId) (dI : Nat → Nat → Nat) (kI kZ : ClassId) (sz : Nat) (a0 a1 a2 a3 : Nat) (S : S_Tree) (x1 x2 : Int32) (hn : ¬ S.2.2.2 + 1 < 0) : Met l yTr_add wsTr_add ({ frames := 1, cells := 0, slots := 0, locals := 21 }) (w_Pc dC dI kI kZ sz [.ref a0, .int x1, .int x2] (w_Tree kI kZ a0 a1 a2 a3 S)) (w_Qi dC dI (w_Tree kI kZ a0 a1 a2 a3) (w_Tree kI kZ a0 a1 a2 a3 S) sz (f_Tree_add S x1 x2)) 0 0 (va_A (w_Tree kI kZ a0 a1 a2 a3 S) sz) := by
  refine Met.ofW (cc := cTr_add) (maxL := 4) (ret := (some .int)) (by decide) rfl ?_
  intro p e s m args below meth c s₁ B hml hv
  obtain ⟨rfl, hsz, hP, hX, hD0⟩ := hv
  have hK := hX.1
  have hx := B.exec
  have hb := B.bytes
  have hr := B.returns
  have hts := atoms_spec (ws := wsTr_add) B.pre
  have hown : s.vm.findClass RTr = some m.cls := findClass_of_methodNamed B.named
  have hlocks := B.notSynchronized
  subst hsz
  have hD := hD0.self (sz := s.heap.size)
  unfold w_Qi
  generalize hAe : va_A (w_Tree kI kZ a0 a1 a2 a3 S) s.heap.size = A at hD ⊢
  have hA : ∀ q : Nat, s.heap.size ≤ q → A q := fun q h => by rw [← hAe]; exact Or.inr h
  have hS : va_S A s.heap s.heap [] := va_S.rf
  have hP : va_P (dC, dI) vwCl [(a0, .inr (0, [.ref a1, .ref a2, .ref a3, .int S.2.2.2])), (a1, .inl (kI, 61, .inl S.1)), (a2, .inl (kI, 61, .inl S.2.1)), (a3, .inl (kI, 4, .inl S.2.2.1))] s.heap := hP
  have hD : va_D A [(a0, .inr (0, [.ref a1, .ref a2, .ref a3, .int S.2.2.2])), (a1, .inl (kI, 61, .inl S.1)), (a2, .inl (kI, 61, .inl S.2.1)), (a3, .inl (kI, 4, .inl S.2.2.1))] := hD
  have hl := lv_entry ([.ref a0, .int x1, .int x2]) (n := 4) (Nat.le_of_ble_eq_true rfl)
  rw [lg_entry_eq]
  generalize (lg_sl ([.ref a0, .int x1, .int x2]) ++ List.replicate (4 - (lg_sl ([.ref a0, .int x1, .int x2])).length) Slot.unset).toArray = ls at hl ⊢
  have hl : lv_has ls 4 [(0, .ref a0), (1, .int x1), (2, .int x2)] := hl
  refine lv_aload_n hx hb dTr_add_0 rfl (lv_at hl 0 rfl) ?_
  refine va_get (D := (dC, dI)) (ci := 0) (v := .int S.2.2.2) (C := RTr) (T := TTr) (N := 4) hx hb hts (by decide +kernel) hown hK hP 0 rfl rfl 3 (by decide) (hts (.fieldLink RTr 21 "DeclarativeRows$Tree" "size" "I") (by decide +kernel)) (fun _ h9 => h9) rfl dTr_add_1 ?_
  refine lv_iconst (v := 1) hx hb dTr_add_4 (by decide) ?_
  refine lv_iadd hx hb dTr_add_5 ?_
  refine lv_istore_n (lv' := [(3, .int (S.2.2.2 + 1)), (0, .ref a0), (1, .int x1), (2, .int x2)]) hx hb dTr_add_6 rfl hl (by decide) rfl (fun ls hl => ?_)
  refine lv_iload_n hx hb dTr_add_7 rfl (lv_at hl 0 rfl) ?_
  refine lv_aload_n hx hb dTr_add_8 rfl (lv_at hl 1 rfl) ?_
  refine va_get (D := (dC, dI)) (ci := 0) (v := .ref a1) (C := RTr) (T := TTr) (N := 4) hx hb hts (by decide +kernel) hown hK hP 0 rfl rfl 0 (by decide) (hts (.fieldLink RTr 9 "DeclarativeRows$Tree" "names" "[I") (by decide +kernel)) (fun _ h9 => h9) rfl dTr_add_9 ?_
  refine va_alen (v := 61) hx hb hK hP 1 0 rfl rfl rfl dTr_add_12 ?_
  refine lv_icmp_ge (tgt := 39) hx hb dTr_add_13 (by decide) (fun c_1 => ?_) (fun c_1 => ?_)
  · refine lv_iconst (v := -1) hx hb dTr_add_39 (by decide) ?_
    exact W.iret (v := -1) hx hb hr (fun t ht hW => ⟨⟨_, S, rfl, (show (-1, S) = f_Tree_add S x1 x2 from by unfold f_Tree_add; rw [if_pos c_1]), by rw [ht]; exact hP, hD⟩, hS.F ht⟩) hS.2.2 dTr_add_40
  · refine lv_iload_n hx hb dTr_add_16 rfl (lv_at hl 0 rfl) ?_
    refine lv_aload_n hx hb dTr_add_17 rfl (lv_at hl 1 rfl) ?_
    refine va_get (D := (dC, dI)) (ci := 0) (v := .ref a2) (C := RTr) (T := TTr) (N := 4) hx hb hts (by decide +kernel) hown hK hP 0 rfl rfl 1 (by decide) (hts (.fieldLink RTr 15 "DeclarativeRows$Tree" "parents" "[I") (by decide +kernel)) (fun _ h9 => h9) rfl dTr_add_18 ?_
    refine va_alen (v := 61) hx hb hK hP 2 0 rfl rfl rfl dTr_add_21 ?_
    refine lv_icmp_ge (tgt := 39) hx hb dTr_add_22 (by decide) (fun c_2 => ?_) (fun c_2 => ?_)
    · exact absurd c_2 c_1
    · refine lv_iload_n hx hb dTr_add_25 rfl (lv_at hl 2 rfl) ?_
      refine lv_iconst (v := 1) hx hb dTr_add_26 (by decide) ?_
      refine lv_icmp_lt (tgt := 39) hx hb dTr_add_27 (by decide) (fun c_3 => ?_) (fun c_3 => ?_)
      · refine lv_iconst (v := -1) hx hb dTr_add_39 (by decide) ?_
        exact W.iret (v := -1) hx hb hr (fun t ht hW => ⟨⟨_, S, rfl, (show (-1, S) = f_Tree_add S x1 x2 from by unfold f_Tree_add; rw [if_neg c_1, if_pos c_3]), by rw [ht]; exact hP, hD⟩, hS.F ht⟩) hS.2.2 dTr_add_40
      · refine lv_iload_n hx hb dTr_add_30 rfl (lv_at hl 2 rfl) ?_
        refine lv_aload_n hx hb dTr_add_31 rfl (lv_at hl 1 rfl) ?_
        refine va_get (D := (dC, dI)) (ci := 0) (v := .ref a3) (C := RTr) (T := TTr) (N := 4) hx hb hts (by decide +kernel) hown hK hP 0 rfl rfl 2 (by decide) (hts (.fieldLink RTr 18 "DeclarativeRows$Tree" "latestOfLevel" "[I") (by decide +kernel)) (fun _ h9 => h9) rfl dTr_add_32 ?_
        refine va_alen (v := 4) hx hb hK hP 3 0 rfl rfl rfl dTr_add_35 ?_
        refine lv_icmp_lt (tgt := 41) hx hb dTr_add_36 (by decide) (fun c_4 => ?_) (fun c_4 => ?_)
        · refine lv_aload_n hx hb dTr_add_41 rfl (lv_at hl 1 rfl) ?_
          refine va_get (D := (dC, dI)) (ci := 0) (v := .ref a1) (C := RTr) (T := TTr) (N := 4) hx hb hts (by decide +kernel) hown hK hP 0 rfl rfl 0 (by decide) (hts (.fieldLink RTr 9 "DeclarativeRows$Tree" "names" "[I") (by decide +kernel)) (fun _ h9 => h9) rfl dTr_add_42 ?_
          refine lv_iload_n hx hb dTr_add_45 rfl (lv_at hl 0 rfl) ?_
          refine lv_iload_n hx hb dTr_add_46 rfl (lv_at hl 3 rfl) ?_
          refine va_iast hx hb hK hP hD hS 1 0 rfl rfl (i := (S.2.2.2 + 1)) (x := x2) (in_of (by decide) hn c_1) dTr_add_47 (fun H locs hP hD hS => ?_)
          have hP : va_P (dC, dI) vwCl [(a0, .inr (0, [.ref a1, .ref a2, .ref a3, .int S.2.2.2])), (a1, .inl (kI, 61, .inl (upd S.1 (S.2.2.2 + 1).toNatClampNeg x2))), (a2, .inl (kI, 61, .inl S.2.1)), (a3, .inl (kI, 4, .inl S.2.2.1))] H := hP
          have hD : va_D A [(a0, .inr (0, [.ref a1, .ref a2, .ref a3, .int S.2.2.2])), (a1, .inl (kI, 61, .inl (upd S.1 (S.2.2.2 + 1).toNatClampNeg x2))), (a2, .inl (kI, 61, .inl S.2.1)), (a3, .inl (kI, 4, .inl S.2.2.1))] := hD
          refine lv_aload_n hx hb dTr_add_48 rfl (lv_at hl 1 rfl) ?_
          refine va_get (D := (dC, dI)) (ci := 0) (v := .ref a2) (C := RTr) (T := TTr) (N := 4) hx hb hts (by decide +kernel) hown hK hP 0 rfl rfl 1 (by decide) (hts (.fieldLink RTr 15 "DeclarativeRows$Tree" "parents" "[I") (by decide +kernel)) (fun _ h9 => h9) rfl dTr_add_49 ?_
          refine lv_iload_n hx hb dTr_add_52 rfl (lv_at hl 0 rfl) ?_
          refine lv_aload_n hx hb dTr_add_53 rfl (lv_at hl 1 rfl) ?_
          refine lv_iload_n hx hb dTr_add_54 rfl (lv_at hl 2 rfl) ?_
          refine lv_iconst (v := 1) hx hb dTr_add_55 (by decide) ?_
          refine lv_isub hx hb dTr_add_56 ?_
          refine xx_callR (dC := dC) (dI := dI) (va_runV (As := [.int (x1 - 1)]) (rest := [.int (S.2.2.2 + 1), .ref a2]) ⟨hx, hb, hml, hown, hts⟩ (m_Tree_latestOf l dC dI kI kZ a0 a1 a2 a3 ((upd S.1 (S.2.2.2 + 1).toNatClampNeg x2), S.2) (x1 - 1)) (cwV 1 hts gTr_add_Tr_latestOf rfl rfl rfl (by decide +kernel) ⟨Nat.le_of_ble_eq_true rfl, Nat.le_of_ble_eq_true rfl⟩) (xx_preR hX (hP.sub (ws' := (w_Tree kI kZ a0 a1 a2 a3 ((upd S.1 (S.2.2.2 + 1).toNatClampNeg x2), S.2))) [0, 1, 2, 3] rfl) (ci := 0) (q0 := 0) rfl rfl) rfl rfl hl.1 rfl (lv_room (Nat.le_of_ble_eq_true rfl)) dTr_add_57 ⟨Nat.le_of_ble_eq_true rfl, Nat.le_of_ble_eq_true rfl⟩) hS (fun H locs kp hS => ?_)
          have hP := kp _ hP
          refine va_iast hx hb hK hP hD hS 2 0 rfl rfl (i := (S.2.2.2 + 1)) (x := (f_Tree_latestOf ((upd S.1 (S.2.2.2 + 1).toNatClampNeg x2), S.2) (x1 - 1))) (in_of (by decide) hn c_2) dTr_add_60 (fun H locs hP hD hS => ?_)
          have hP : va_P (dC, dI) vwCl [(a0, .inr (0, [.ref a1, .ref a2, .ref a3, .int S.2.2.2])), (a1, .inl (kI, 61, .inl (upd S.1 (S.2.2.2 + 1).toNatClampNeg x2))), (a2, .inl (kI, 61, .inl (upd S.2.1 (S.2.2.2 + 1).toNatClampNeg (f_Tree_latestOf ((upd S.1 (S.2.2.2 + 1).toNatClampNeg x2), S.2) (x1 - 1))))), (a3, .inl (kI, 4, .inl S.2.2.1))] H := hP
          have hD : va_D A [(a0, .inr (0, [.ref a1, .ref a2, .ref a3, .int S.2.2.2])), (a1, .inl (kI, 61, .inl (upd S.1 (S.2.2.2 + 1).toNatClampNeg x2))), (a2, .inl (kI, 61, .inl (upd S.2.1 (S.2.2.2 + 1).toNatClampNeg (f_Tree_latestOf ((upd S.1 (S.2.2.2 + 1).toNatClampNeg x2), S.2) (x1 - 1))))), (a3, .inl (kI, 4, .inl S.2.2.1))] := hD
          refine lv_aload_n hx hb dTr_add_61 rfl (lv_at hl 1 rfl) ?_
          refine va_get (D := (dC, dI)) (ci := 0) (v := .ref a3) (C := RTr) (T := TTr) (N := 4) hx hb hts (by decide +kernel) hown hK hP 0 rfl rfl 2 (by decide) (hts (.fieldLink RTr 18 "DeclarativeRows$Tree" "latestOfLevel" "[I") (by decide +kernel)) (fun _ h9 => h9) rfl dTr_add_62 ?_
          refine lv_iload_n hx hb dTr_add_65 rfl (lv_at hl 2 rfl) ?_
          refine lv_iload_n hx hb dTr_add_66 rfl (lv_at hl 0 rfl) ?_
          refine va_iast hx hb hK hP hD hS 3 0 rfl rfl (i := x1) (x := (S.2.2.2 + 1)) (in_of3 (by decide) c_3 c_4) dTr_add_67 (fun H locs hP hD hS => ?_)
          have hP : va_P (dC, dI) vwCl [(a0, .inr (0, [.ref a1, .ref a2, .ref a3, .int S.2.2.2])), (a1, .inl (kI, 61, .inl (upd S.1 (S.2.2.2 + 1).toNatClampNeg x2))), (a2, .inl (kI, 61, .inl (upd S.2.1 (S.2.2.2 + 1).toNatClampNeg (f_Tree_latestOf ((upd S.1 (S.2.2.2 + 1).toNatClampNeg x2), S.2) (x1 - 1))))), (a3, .inl (kI, 4, .inl (upd S.2.2.1 x1.toNatClampNeg (S.2.2.2 + 1))))] H := hP
          have hD : va_D A [(a0, .inr (0, [.ref a1, .ref a2, .ref a3, .int S.2.2.2])), (a1, .inl (kI, 61, .inl (upd S.1 (S.2.2.2 + 1).toNatClampNeg x2))), (a2, .inl (kI, 61, .inl (upd S.2.1 (S.2.2.2 + 1).toNatClampNeg (f_Tree_latestOf ((upd S.1 (S.2.2.2 + 1).toNatClampNeg x2), S.2) (x1 - 1))))), (a3, .inl (kI, 4, .inl (upd S.2.2.1 x1.toNatClampNeg (S.2.2.2 + 1))))] := hD
          refine lv_aload_n hx hb dTr_add_68 rfl (lv_at hl 1 rfl) ?_
          refine lv_iload_n hx hb dTr_add_69 rfl (lv_at hl 0 rfl) ?_
          refine va_put (D := (dC, dI)) (ci := 0) (v := .int (S.2.2.2 + 1)) (ty := .int) (C := RTr) (T := TTr) (N := 4) hx hb hts (by decide +kernel) tyTr tyTr_ok nmTr hown hK hP hD hS 0 rfl rfl 3 (by decide) (hts (.fieldLink RTr 21 "DeclarativeRows$Tree" "size" "I") (by decide +kernel)) (fun _ h9 => h9) rfl (by decide +kernel) rfl rfl (Nat.le_of_ble_eq_true rfl) dTr_add_70 (fun H locs hP hD hS => ?_)
          have hP : va_P (dC, dI) vwCl [(a0, .inr (0, [.ref a1, .ref a2, .ref a3, .int (S.2.2.2 + 1)])), (a1, .inl (kI, 61, .inl (upd S.1 (S.2.2.2 + 1).toNatClampNeg x2))), (a2, .inl (kI, 61, .inl (upd S.2.1 (S.2.2.2 + 1).toNatClampNeg (f_Tree_latestOf ((upd S.1 (S.2.2.2 + 1).toNatClampNeg x2), S.2) (x1 - 1))))), (a3, .inl (kI, 4, .inl (upd S.2.2.1 x1.toNatClampNeg (S.2.2.2 + 1))))] H := hP
          have hD : va_D A [(a0, .inr (0, [.ref a1, .ref a2, .ref a3, .int (S.2.2.2 + 1)])), (a1, .inl (kI, 61, .inl (upd S.1 (S.2.2.2 + 1).toNatClampNeg x2))), (a2, .inl (kI, 61, .inl (upd S.2.1 (S.2.2.2 + 1).toNatClampNeg (f_Tree_latestOf ((upd S.1 (S.2.2.2 + 1).toNatClampNeg x2), S.2) (x1 - 1))))), (a3, .inl (kI, 4, .inl (upd S.2.2.1 x1.toNatClampNeg (S.2.2.2 + 1))))] := hD
          refine lv_iload_n hx hb dTr_add_73 rfl (lv_at hl 0 rfl) ?_
          exact W.iret (v := (S.2.2.2 + 1)) hx hb hr (fun t ht hW => ⟨⟨_, ((upd S.1 (S.2.2.2 + 1).toNatClampNeg x2), (upd S.2.1 (S.2.2.2 + 1).toNatClampNeg (f_Tree_latestOf ((upd S.1 (S.2.2.2 + 1).toNatClampNeg x2), S.2) (x1 - 1))), (upd S.2.2.1 x1.toNatClampNeg (S.2.2.2 + 1)), (S.2.2.2 + 1)), rfl, (show ((S.2.2.2 + 1), ((upd S.1 (S.2.2.2 + 1).toNatClampNeg x2), (upd S.2.1 (S.2.2.2 + 1).toNatClampNeg (f_Tree_latestOf ((upd S.1 (S.2.2.2 + 1).toNatClampNeg x2), S.2) (x1 - 1))), (upd S.2.2.1 x1.toNatClampNeg (S.2.2.2 + 1)), (S.2.2.2 + 1))) = f_Tree_add S x1 x2 from by unfold f_Tree_add; rw [if_neg c_1, if_neg c_3, if_pos c_4]), by rw [ht]; exact hP, hD⟩, hS.F ht⟩) hS.2.2 dTr_add_74
        · refine lv_iconst (v := -1) hx hb dTr_add_39 (by decide) ?_
          exact W.iret (v := -1) hx hb hr (fun t ht hW => ⟨⟨_, S, rfl, (show (-1, S) = f_Tree_add S x1 x2 from by unfold f_Tree_add; rw [if_neg c_1, if_neg c_3, if_neg c_4]), by rw [ht]; exact hP, hD⟩, hS.F ht⟩) hS.2.2 dTr_add_40
set_option maxHeartbeats 4000000 in
set_option maxRecDepth 100000 in
theorem m_Tree_above (l : Launch) (dC : Nat → ClassId) (dI : Nat → Nat → Nat) (kI kZ : ClassId) (a0 a1 a2 a3 : Nat) (S : S_Tree) (x1 : Int32) : Met l yTr_above wsTr_above ({ frames := 1, cells := 0, slots := 0, locals := 21 }) (r_Pc dC dI kI kZ [.ref a0, .int x1] (w_Tree kI kZ a0 a1 a2 a3 S)) (r_Qc (f_Tree_above S x1)) 0 0 (fun _ => False) := by
  refine Met.ofW (cc := cTr_above) (maxL := 2) (ret := (some .int)) (by decide) rfl ?_
  intro p e s m args below meth c s₁ B hml hv
  obtain ⟨rfl, hP, hX⟩ := hv
  have hK := hX.1
  have hx := B.exec
  have hb := B.bytes
  have hr := B.returns
  have hts := atoms_spec (ws := wsTr_above) B.pre
  have hown : s.vm.findClass RTr = some m.cls := findClass_of_methodNamed B.named
  have hlocks := B.notSynchronized
  have hS : va_S (fun _ => False) s.heap s.heap [] := va_S.rf
  have hP : va_P (dC, dI) vwCl [(a0, .inr (0, [.ref a1, .ref a2, .ref a3, .int S.2.2.2])), (a1, .inl (kI, 61, .inl S.1)), (a2, .inl (kI, 61, .inl S.2.1)), (a3, .inl (kI, 4, .inl S.2.2.1))] s.heap := hP
  have hl := lv_entry ([.ref a0, .int x1]) (n := 2) (Nat.le_of_ble_eq_true rfl)
  rw [lg_entry_eq]
  generalize (lg_sl ([.ref a0, .int x1]) ++ List.replicate (2 - (lg_sl ([.ref a0, .int x1])).length) Slot.unset).toArray = ls at hl ⊢
  have hl : lv_has ls 2 [(0, .ref a0), (1, .int x1)] := hl
  refine lv_aload_n hx hb dTr_above_0 rfl (lv_at hl 0 rfl) ?_
  refine lv_iload_n hx hb dTr_above_1 rfl (lv_at hl 1 rfl) ?_
  refine xx_callR (dC := dC) (dI := dI) (va_runV (As := [.int x1]) (rest := []) ⟨hx, hb, hml, hown, hts⟩ (m_Tree_has l dC dI kI kZ a0 a1 a2 a3 S x1) (cwV 1 hts gTr_above_Tr_has rfl rfl rfl (by decide +kernel) ⟨Nat.le_of_ble_eq_true rfl, Nat.le_of_ble_eq_true rfl⟩) (xx_preR hX (hP.sub (ws' := (w_Tree kI kZ a0 a1 a2 a3 S)) [0, 1, 2, 3] rfl) (ci := 0) (q0 := 0) rfl rfl) rfl rfl hl.1 rfl (lv_room (Nat.le_of_ble_eq_true rfl)) dTr_above_2 ⟨Nat.le_of_ble_eq_true rfl, Nat.le_of_ble_eq_true rfl⟩) hS (fun H locs kp hS => ?_)
  have hP := kp _ hP
  refine lv_if_eq (tgt := 26) hx hb dTr_above_5 (by decide) (fun c_1 => ?_) (fun c_1 => ?_)
  · refine lv_iconst (v := 0) hx hb dTr_above_26 (by decide) ?_
    exact W.iret (v := 0) hx hb hr (fun t ht hW => ⟨⟨_, (), rfl, (show 0 = f_Tree_above S x1 from by unfold f_Tree_above; rw [if_pos c_1]), trivial⟩, hS.F ht⟩) hS.2.2 dTr_above_27
  · refine lv_iload_n hx hb dTr_above_8 rfl (lv_at hl 1 rfl) ?_
    refine lv_aload_n hx hb dTr_above_9 rfl (lv_at hl 0 rfl) ?_
    refine va_get (D := (dC, dI)) (ci := 0) (v := .ref a2) (C := RTr) (T := TTr) (N := 4) hx hb hts (by decide +kernel) hown hK hP 0 rfl rfl 1 (by decide) (hts (.fieldLink RTr 15 "DeclarativeRows$Tree" "parents" "[I") (by decide +kernel)) (fun _ h9 => h9) rfl dTr_above_10 ?_
    refine va_alen (v := 61) hx hb hK hP 2 0 rfl rfl rfl dTr_above_13 ?_
    refine lv_icmp_ge (tgt := 26) hx hb dTr_above_14 (by decide) (fun c_2 => ?_) (fun c_2 => ?_)
    · refine lv_iconst (v := 0) hx hb dTr_above_26 (by decide) ?_
      exact W.iret (v := 0) hx hb hr (fun t ht hW => ⟨⟨_, (), rfl, (show 0 = f_Tree_above S x1 from by unfold f_Tree_above; rw [if_neg c_1, if_pos c_2]), trivial⟩, hS.F ht⟩) hS.2.2 dTr_above_27
    · refine lv_aload_n hx hb dTr_above_17 rfl (lv_at hl 0 rfl) ?_
      refine va_get (D := (dC, dI)) (ci := 0) (v := .ref a2) (C := RTr) (T := TTr) (N := 4) hx hb hts (by decide +kernel) hown hK hP 0 rfl rfl 1 (by decide) (hts (.fieldLink RTr 15 "DeclarativeRows$Tree" "parents" "[I") (by decide +kernel)) (fun _ h9 => h9) rfl dTr_above_18 ?_
      refine lv_iload_n hx hb dTr_above_21 rfl (lv_at hl 1 rfl) ?_
      refine va_iald hx hb hK hP 2 0 rfl rfl (i := x1) (in_has c_1) dTr_above_22 ?_
      refine lv_goto (tgt := 27) hx hb dTr_above_23 (by decide) ?_
      exact W.iret (v := (S.2.1 x1.toNatClampNeg)) hx hb hr (fun t ht hW => ⟨⟨_, (), rfl, (show (S.2.1 x1.toNatClampNeg) = f_Tree_above S x1 from by unfold f_Tree_above; rw [if_neg c_1, if_neg c_2]), trivial⟩, hS.F ht⟩) hS.2.2 dTr_above_27
set_option maxHeartbeats 4000000 in
set_option maxRecDepth 100000 in
theorem m_Tree_isFatal (l : Launch) (dC : Nat → ClassId) (dI : Nat → Nat → Nat) (kI kZ : ClassId) (a0 a1 a2 a3 : Nat) (S : S_Tree) (x1 : Int32) : Met l yTr_isFatal wsTr_isFatal ({ frames := 1, cells := 0, slots := 0, locals := 21 }) (r_Pc dC dI kI kZ [.ref a0, .int x1] (w_Tree kI kZ a0 a1 a2 a3 S)) (r_Qc (f_Tree_isFatal S x1)) 0 0 (fun _ => False) := by
  refine Met.ofW (cc := cTr_isFatal) (maxL := 2) (ret := (some .boolean)) (by decide) rfl ?_
  intro p e s m args below meth c s₁ B hml hv
  obtain ⟨rfl, hP, hX⟩ := hv
  have hK := hX.1
  have hx := B.exec
  have hb := B.bytes
  have hr := B.returns
  have hts := atoms_spec (ws := wsTr_isFatal) B.pre
  have hown : s.vm.findClass RTr = some m.cls := findClass_of_methodNamed B.named
  have hlocks := B.notSynchronized
  have hS : va_S (fun _ => False) s.heap s.heap [] := va_S.rf
  have hP : va_P (dC, dI) vwCl [(a0, .inr (0, [.ref a1, .ref a2, .ref a3, .int S.2.2.2])), (a1, .inl (kI, 61, .inl S.1)), (a2, .inl (kI, 61, .inl S.2.1)), (a3, .inl (kI, 4, .inl S.2.2.1))] s.heap := hP
  have hl := lv_entry ([.ref a0, .int x1]) (n := 2) (Nat.le_of_ble_eq_true rfl)
  rw [lg_entry_eq]
  generalize (lg_sl ([.ref a0, .int x1]) ++ List.replicate (2 - (lg_sl ([.ref a0, .int x1])).length) Slot.unset).toArray = ls at hl ⊢
  have hl : lv_has ls 2 [(0, .ref a0), (1, .int x1)] := hl
  refine lv_aload_n hx hb dTr_isFatal_0 rfl (lv_at hl 0 rfl) ?_
  refine lv_iload_n hx hb dTr_isFatal_1 rfl (lv_at hl 1 rfl) ?_
  refine xx_callR (dC := dC) (dI := dI) (va_runV (As := [.int x1]) (rest := []) ⟨hx, hb, hml, hown, hts⟩ (m_Tree_has l dC dI kI kZ a0 a1 a2 a3 S x1) (cwV 1 hts gTr_isFatal_Tr_has rfl rfl rfl (by decide +kernel) ⟨Nat.le_of_ble_eq_true rfl, Nat.le_of_ble_eq_true rfl⟩) (xx_preR hX (hP.sub (ws' := (w_Tree kI kZ a0 a1 a2 a3 S)) [0, 1, 2, 3] rfl) (ci := 0) (q0 := 0) rfl rfl) rfl rfl hl.1 rfl (lv_room (Nat.le_of_ble_eq_true rfl)) dTr_isFatal_2 ⟨Nat.le_of_ble_eq_true rfl, Nat.le_of_ble_eq_true rfl⟩) hS (fun H locs kp hS => ?_)
  have hP := kp _ hP
  refine lv_if_eq (tgt := 23) hx hb dTr_isFatal_5 (by decide) (fun c_1 => ?_) (fun c_1 => ?_)
  · refine lv_iconst (v := 0) hx hb dTr_isFatal_23 (by decide) ?_
    exact W.zret (v := 0) hx hb hr rfl (fun t ht hW => ⟨⟨_, (), rfl, (show 0 = f_Tree_isFatal S x1 from by unfold f_Tree_isFatal; rw [if_pos c_1]), trivial⟩, hS.F ht⟩) hS.2.2 dTr_isFatal_24
  · refine lv_aload_n hx hb dTr_isFatal_8 rfl (lv_at hl 0 rfl) ?_
    refine va_get (D := (dC, dI)) (ci := 0) (v := .ref a1) (C := RTr) (T := TTr) (N := 4) hx hb hts (by decide +kernel) hown hK hP 0 rfl rfl 0 (by decide) (hts (.fieldLink RTr 9 "DeclarativeRows$Tree" "names" "[I") (by decide +kernel)) (fun _ h9 => h9) rfl dTr_isFatal_9 ?_
    refine lv_iload_n hx hb dTr_isFatal_12 rfl (lv_at hl 1 rfl) ?_
    refine va_iald hx hb hK hP 1 0 rfl rfl (i := x1) (in_has c_1) dTr_isFatal_13 ?_
    refine lv_bipush (v := 50) hx hb dTr_isFatal_14 (by decide) ?_
    refine lv_icmp_ge (tgt := 23) hx hb dTr_isFatal_16 (by decide) (fun c_2 => ?_) (fun c_2 => ?_)
    · refine lv_iconst (v := 0) hx hb dTr_isFatal_23 (by decide) ?_
      exact W.zret (v := 0) hx hb hr rfl (fun t ht hW => ⟨⟨_, (), rfl, (show 0 = f_Tree_isFatal S x1 from by unfold f_Tree_isFatal; rw [if_neg c_1, if_pos c_2]), trivial⟩, hS.F ht⟩) hS.2.2 dTr_isFatal_24
    · refine lv_iconst (v := 1) hx hb dTr_isFatal_19 (by decide) ?_
      refine lv_goto (tgt := 24) hx hb dTr_isFatal_20 (by decide) ?_
      exact W.zret (v := 1) hx hb hr rfl (fun t ht hW => ⟨⟨_, (), rfl, (show 1 = f_Tree_isFatal S x1 from by unfold f_Tree_isFatal; rw [if_neg c_1, if_neg c_2]), trivial⟩, hS.F ht⟩) hS.2.2 dTr_isFatal_24
set_option maxHeartbeats 4000000 in
set_option maxRecDepth 100000 in
theorem m_Tree_isSameOrAbove (l : Launch) (dC : Nat → ClassId) (dI : Nat → Nat → Nat) (kI kZ : ClassId) (a0 a1 a2 a3 : Nat) (S : S_Tree) (x1 x2 : Int32) : Met l yTr_isSameOrAbove wsTr_isSameOrAbove ({ frames := 2, cells := 0, slots := 0, locals := 42 }) (r_Pc dC dI kI kZ [.ref a0, .int x1, .int x2] (w_Tree kI kZ a0 a1 a2 a3 S)) (r_Qc (f_Tree_isSameOrAbove S x1 x2)) 0 0 (fun _ => False) := by
  refine Met.ofW (cc := cTr_isSameOrAbove) (maxL := 5) (ret := (some .boolean)) (by decide) rfl ?_
  intro p e s m args below meth c s₁ B hml hv
  obtain ⟨rfl, hP, hX⟩ := hv
  have hK := hX.1
  have hx := B.exec
  have hb := B.bytes
  have hr := B.returns
  have hts := atoms_spec (ws := wsTr_isSameOrAbove) B.pre
  have hown : s.vm.findClass RTr = some m.cls := findClass_of_methodNamed B.named
  have hlocks := B.notSynchronized
  have hS : va_S (fun _ => False) s.heap s.heap [] := va_S.rf
  have hP : va_P (dC, dI) vwCl [(a0, .inr (0, [.ref a1, .ref a2, .ref a3, .int S.2.2.2])), (a1, .inl (kI, 61, .inl S.1)), (a2, .inl (kI, 61, .inl S.2.1)), (a3, .inl (kI, 4, .inl S.2.2.1))] s.heap := hP
  have hl := lv_entry ([.ref a0, .int x1, .int x2]) (n := 5) (Nat.le_of_ble_eq_true rfl)
  rw [lg_entry_eq]
  generalize (lg_sl ([.ref a0, .int x1, .int x2]) ++ List.replicate (5 - (lg_sl ([.ref a0, .int x1, .int x2])).length) Slot.unset).toArray = ls at hl ⊢
  have hl : lv_has ls 5 [(0, .ref a0), (1, .int x1), (2, .int x2)] := hl
  refine lv_iload_n hx hb dTr_isSameOrAbove_0 rfl (lv_at hl 2 rfl) ?_
  refine lv_istore_n (lv' := [(3, .int x2), (0, .ref a0), (1, .int x1), (2, .int x2)]) hx hb dTr_isSameOrAbove_1 rfl hl (by decide) rfl (fun ls hl => ?_)
  refine lv_iconst (v := 0) hx hb dTr_isSameOrAbove_2 (by decide) ?_
  refine lv_istore (lv' := [(4, .int 0), (3, .int x2), (0, .ref a0), (1, .int x1), (2, .int x2)]) hx hb dTr_isSameOrAbove_3 hl (by decide) rfl (fun ls hl => ?_)
  refine (?_ : ∀ (k j : Nat) (x3 : Int32) (x4 : Int32) (ls : Array Slot) (H : Heap) (locs : List Loc), lv_has ls 5 [(0, .ref a0), (1, .int x1), (2, .int x2), (3, .int x3), (4, .int x4)] → va_P (dC, dI) vwCl [(a0, .inr (0, [.ref a1, .ref a2, .ref a3, .int S.2.2.2])), (a1, .inl (kI, 61, .inl S.1)), (a2, .inl (kI, 61, .inl S.2.1)), (a3, .inl (kI, 4, .inl S.2.2.1))] H → va_S (fun _ => False) s.heap H locs → x4 = nI j → j ≤ 3 → 3 < j + k → f_Tree_isSameOrAbove S x1 x2 = f_Tree_isSameOrAbove_L5 S x1 x2 k x3 x4 → W p l e _ s m _ below meth c H locs _ _ _ (F0 m 5 ls [])) 4 0 x2 0 ls _ _ (lv_sub hl [2, 3, 4, 1, 0] rfl) hP hS (nI_0.symm) (by omega) (by omega) (rfl)
  intro k5
  induction k5 with
  | zero => intro j5 x3 x4 ls H locs hl hP hS hj5 hjN5 hk5 hI5; exfalso; omega
  | succ k5 ih5 =>
    intro j5 x3 x4 ls H locs hl hP hS hj5 hjN5 hk5 hI5
    refine lv_iload hx hb dTr_isSameOrAbove_5 (lv_at hl 4 rfl) ?_
    refine lv_iconst (v := 3) hx hb dTr_isSameOrAbove_7 (by decide) ?_
    refine lv_icmp_ge (tgt := 38) hx hb dTr_isSameOrAbove_8 (by decide) (fun c_1 => ?_) (fun c_1 => ?_)
    · refine lv_iconst (v := 0) hx hb dTr_isSameOrAbove_38 (by decide) ?_
      exact W.zret (v := 0) hx hb hr rfl (fun t ht hW => ⟨⟨_, (), rfl, (show 0 = f_Tree_isSameOrAbove S x1 x2 from by rw [hI5, f_Tree_isSameOrAbove_L5, if_pos c_1]), trivial⟩, hS.F ht⟩) hS.2.2 dTr_isSameOrAbove_39
    · have hjl : j5 < 3 := lt_of3 hj5 (by omega) c_1
      refine lv_aload_n hx hb dTr_isSameOrAbove_11 rfl (lv_at hl 0 rfl) ?_
      refine lv_iload_n hx hb dTr_isSameOrAbove_12 rfl (lv_at hl 3 rfl) ?_
      refine xx_callR (dC := dC) (dI := dI) (va_runV (As := [.int x3]) (rest := []) ⟨hx, hb, hml, hown, hts⟩ (m_Tree_has l dC dI kI kZ a0 a1 a2 a3 S x3) (cwV 1 hts gTr_isSameOrAbove_Tr_has rfl rfl rfl (by decide +kernel) ⟨Nat.le_of_ble_eq_true rfl, Nat.le_of_ble_eq_true rfl⟩) (xx_preR hX (hP.sub (ws' := (w_Tree kI kZ a0 a1 a2 a3 S)) [0, 1, 2, 3] rfl) (ci := 0) (q0 := 0) rfl rfl) rfl rfl hl.1 rfl (lv_room (Nat.le_of_ble_eq_true rfl)) dTr_isSameOrAbove_13 ⟨Nat.le_of_ble_eq_true rfl, Nat.le_of_ble_eq_true rfl⟩) hS (fun H locs kp hS => ?_)
      have hP := kp _ hP
      refine lv_if_eq (tgt := 38) hx hb dTr_isSameOrAbove_16 (by decide) (fun c_2 => ?_) (fun c_2 => ?_)
      · refine lv_iconst (v := 0) hx hb dTr_isSameOrAbove_38 (by decide) ?_
        exact W.zret (v := 0) hx hb hr rfl (fun t ht hW => ⟨⟨_, (), rfl, (show 0 = f_Tree_isSameOrAbove S x1 x2 from by rw [hI5, f_Tree_isSameOrAbove_L5, if_neg c_1, if_pos c_2]), trivial⟩, hS.F ht⟩) hS.2.2 dTr_isSameOrAbove_39
      · refine lv_iload_n hx hb dTr_isSameOrAbove_19 rfl (lv_at hl 3 rfl) ?_
        refine lv_iload_n hx hb dTr_isSameOrAbove_20 rfl (lv_at hl 1 rfl) ?_
        refine lv_icmp_ne (tgt := 26) hx hb dTr_isSameOrAbove_21 (by decide) (fun c_3 => ?_) (fun c_3 => ?_)
        · refine lv_aload_n hx hb dTr_isSameOrAbove_26 rfl (lv_at hl 0 rfl) ?_
          refine lv_iload_n hx hb dTr_isSameOrAbove_27 rfl (lv_at hl 3 rfl) ?_
          refine xx_callR (dC := dC) (dI := dI) (va_runV (As := [.int x3]) (rest := []) ⟨hx, hb, hml, hown, hts⟩ (m_Tree_above l dC dI kI kZ a0 a1 a2 a3 S x3) (cwV 1 hts gTr_isSameOrAbove_Tr_above rfl rfl rfl (by decide +kernel) ⟨Nat.le_of_ble_eq_true rfl, Nat.le_of_ble_eq_true rfl⟩) (xx_preR hX (hP.sub (ws' := (w_Tree kI kZ a0 a1 a2 a3 S)) [0, 1, 2, 3] rfl) (ci := 0) (q0 := 0) rfl rfl) rfl rfl hl.1 rfl (lv_room (Nat.le_of_ble_eq_true rfl)) dTr_isSameOrAbove_28 ⟨Nat.le_of_ble_eq_true rfl, Nat.le_of_ble_eq_true rfl⟩) hS (fun H locs kp hS => ?_)
          have hP := kp _ hP
          refine lv_istore_n (lv' := [(3, .int (f_Tree_above S x3)), (0, .ref a0), (1, .int x1), (2, .int x2), (4, .int x4)]) hx hb dTr_isSameOrAbove_31 rfl hl (by decide) rfl (fun ls hl => ?_)
          refine lv_iinc (v := (x4 + 1)) (lv' := [(4, .int (x4 + 1)), (3, .int (f_Tree_above S x3)), (0, .ref a0), (1, .int x1), (2, .int x2)]) hx hb dTr_isSameOrAbove_32 hl (k := 4) rfl rfl (by decide) rfl (fun ls hl => ?_)
          refine lv_goto (tgt := 5) hx hb dTr_isSameOrAbove_35 (by decide) ?_
          exact ih5 (j5 + 1) (f_Tree_above S x3) (x4 + 1) ls _ _ (lv_sub hl [2, 3, 4, 1, 0] rfl) hP hS (by rw [hj5]; exact nI_1 j5) (by omega) (by omega) (by rw [hI5, f_Tree_isSameOrAbove_L5, if_neg c_1, if_neg c_2, if_neg c_3])
        · refine lv_iconst (v := 1) hx hb dTr_isSameOrAbove_24 (by decide) ?_
          exact W.zret (v := 1) hx hb hr rfl (fun t ht hW => ⟨⟨_, (), rfl, (show 1 = f_Tree_isSameOrAbove S x1 x2 from by rw [hI5, f_Tree_isSameOrAbove_L5, if_neg c_1, if_neg c_2, if_pos c_3]), trivial⟩, hS.F ht⟩) hS.2.2 dTr_isSameOrAbove_25
