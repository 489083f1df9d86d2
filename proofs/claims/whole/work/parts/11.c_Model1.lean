set_option maxHeartbeats 4000000 in
set_option maxRecDepth 100000 in
theorem m_Model_init (l : Launch) (dC : Nat → ClassId) (dI : Nat → Nat → Nat) (kI kZ : ClassId) (sz : Nat) (h0 : Nat) : Met l yMd_init wsMd_init ({ frames := 1, cells := 11, slots := 585, locals := 12 }) (w_Pc dC dI kI kZ sz [.ref h0] [(h0, .inr (7, [.int 0, .int 0, .int 0, .int 0, .int 0, .int 0, .int 0, .int 0, .null, .null, .null, .null, .null, .null, .null, .null, .null, .null, .null, .int 0, .int 0, .int 0, .int 0, .int 0]))]) (c_Qv dC dI (fun u => w_Model kI kZ u f_Model_init) (fun u => u 0 = h0) [(h0, .inr (7, [.int 0, .int 0, .int 0, .int 0, .int 0, .int 0, .int 0, .int 0, .null, .null, .null, .null, .null, .null, .null, .null, .null, .null, .null, .int 0, .int 0, .int 0, .int 0, .int 0]))] sz) 11 585 (va_A [(h0, .inr (7, [.int 0, .int 0, .int 0, .int 0, .int 0, .int 0, .int 0, .int 0, .null, .null, .null, .null, .null, .null, .null, .null, .null, .null, .null, .int 0, .int 0, .int 0, .int 0, .int 0]))] sz) := by
  refine Met.ofW (cc := cMd_init) (maxL := 2) (ret := none) (by decide) rfl ?_
  intro p e s m args below meth c s₁ B hml hv
  obtain ⟨rfl, hsz, hP, hX, hD0⟩ := hv
  have hK := hX.1
  have hx := B.exec
  have hb := B.bytes
  have hr := B.returns
  have hts := atoms_spec (ws := wsMd_init) B.pre
  have hown : s.vm.findClass RMd = some m.cls := findClass_of_methodNamed B.named
  have hlocks := B.notSynchronized
  have hin : meth.name = "<init>" := (name_of_methodNamed B.named B.method).1
  subst hsz
  have hD := hD0.self (sz := s.heap.size)
  unfold c_Qv
  generalize hAe : va_A [(h0, .inr (7, [.int 0, .int 0, .int 0, .int 0, .int 0, .int 0, .int 0, .int 0, .null, .null, .null, .null, .null, .null, .null, .null, .null, .null, .null, .int 0, .int 0, .int 0, .int 0, .int 0]))] s.heap.size = A at hD ⊢
  have hA : ∀ q : Nat, s.heap.size ≤ q → A q := fun q h => by rw [← hAe]; exact Or.inr h
  have hS : va_S A s.heap s.heap [] := va_S.rf
  have hP : va_P (dC, dI) vwCl [(h0, .inr (7, [.int 0, .int 0, .int 0, .int 0, .int 0, .int 0, .int 0, .int 0, .null, .null, .null, .null, .null, .null, .null, .null, .null, .null, .null, .int 0, .int 0, .int 0, .int 0, .int 0]))] s.heap := hP
  have hD : va_D A [(h0, .inr (7, [.int 0, .int 0, .int 0, .int 0, .int 0, .int 0, .int 0, .int 0, .null, .null, .null, .null, .null, .null, .null, .null, .null, .null, .null, .int 0, .int 0, .int 0, .int 0, .int 0]))] := hD
  have hl := lv_entry ([.ref h0]) (n := 2) (Nat.le_of_ble_eq_true rfl)
  rw [lg_entry_eq]
  generalize (lg_sl ([.ref h0]) ++ List.replicate (2 - (lg_sl ([.ref h0])).length) Slot.unset).toArray = ls at hl ⊢
  have hl : lv_has ls 2 [(0, .ref h0)] := hl
  refine lv_aload_n hx hb dMd_init_0 rfl (lv_at hl 0 rfl) ?_
  refine W.objInit hx hb hown (hts (.methodLink RMd 1 objectInit) (by decide +kernel)) (hts (.instanceMethod objectInit) (by decide +kernel)) (hts _ (List.mem_of_getElem? (i := 3) rfl)) rfl (by rw [hml]; exact hl.1) rfl dMd_init_1 (Nat.le_of_ble_eq_true rfl) (Nat.le_of_ble_eq_true rfl) ?_
  refine W.eq (g2 := F0 m 4 ls []) rfl ?_
  refine lv_aload_n hx hb dMd_init_4 rfl (lv_at hl 0 rfl) ?_
  refine lv_bipush (v := 61) hx hb dMd_init_5 (by decide) ?_
  refine xx_newi hx hb (hts (.arrayClass .int) (by decide +kernel)) hK hP hD hS hA (N := 61) (by decide) (by decide) (by decide) (Nat.le_of_ble_eq_true rfl) (Nat.le_of_ble_eq_true rfl) dMd_init_7 (fun q7 H hP hD hS => ?_)
  have hP : va_P (dC, dI) vwCl [(h0, .inr (7, [.int 0, .int 0, .int 0, .int 0, .int 0, .int 0, .int 0, .int 0, .null, .null, .null, .null, .null, .null, .null, .null, .null, .null, .null, .int 0, .int 0, .int 0, .int 0, .int 0])), (q7, .inl (kI, 61, .inl (fun _ => 0)))] H := hP
  have hD : va_D A [(h0, .inr (7, [.int 0, .int 0, .int 0, .int 0, .int 0, .int 0, .int 0, .int 0, .null, .null, .null, .null, .null, .null, .null, .null, .null, .null, .null, .int 0, .int 0, .int 0, .int 0, .int 0])), (q7, .inl (kI, 61, .inl (fun _ => 0)))] := hD
  refine va_putF (D := (dC, dI)) (ci := 7) (v := .ref q7) (ty := .array .int) (C := RMd) (T := TMd) (N := 24) hx hb hts (by decide +kernel) tyMd tyMd_ok nmMd hown hK hP hD hS 0 rfl rfl 8 (by decide) (hts (.fieldLink RMd 7 "DeclarativeRowsModel" "levels" "[I") (by decide +kernel)) (fun _ h9 => h9) rfl hin rfl (by decide +kernel) rfl rfl (Nat.le_of_ble_eq_true rfl) dMd_init_9 (fun H locs hP hD hS => ?_)
  have hP : va_P (dC, dI) vwCl [(h0, .inr (7, [.int 0, .int 0, .int 0, .int 0, .int 0, .int 0, .int 0, .int 0, .ref q7, .null, .null, .null, .null, .null, .null, .null, .null, .null, .null, .int 0, .int 0, .int 0, .int 0, .int 0])), (q7, .inl (kI, 61, .inl (fun _ => 0)))] H := hP
  have hD : va_D A [(h0, .inr (7, [.int 0, .int 0, .int 0, .int 0, .int 0, .int 0, .int 0, .int 0, .ref q7, .null, .null, .null, .null, .null, .null, .null, .null, .null, .null, .int 0, .int 0, .int 0, .int 0, .int 0])), (q7, .inl (kI, 61, .inl (fun _ => 0)))] := hD
  refine lv_aload_n hx hb dMd_init_12 rfl (lv_at hl 0 rfl) ?_
  refine lv_bipush (v := 61) hx hb dMd_init_13 (by decide) ?_
  refine xx_newi hx hb (hts (.arrayClass .int) (by decide +kernel)) hK hP hD hS hA (N := 61) (by decide) (by decide) (by decide) (Nat.le_of_ble_eq_true rfl) (Nat.le_of_ble_eq_true rfl) dMd_init_15 (fun q15 H hP hD hS => ?_)
  have hP : va_P (dC, dI) vwCl [(h0, .inr (7, [.int 0, .int 0, .int 0, .int 0, .int 0, .int 0, .int 0, .int 0, .ref q7, .null, .null, .null, .null, .null, .null, .null, .null, .null, .null, .int 0, .int 0, .int 0, .int 0, .int 0])), (q7, .inl (kI, 61, .inl (fun _ => 0))), (q15, .inl (kI, 61, .inl (fun _ => 0)))] H := hP
  have hD : va_D A [(h0, .inr (7, [.int 0, .int 0, .int 0, .int 0, .int 0, .int 0, .int 0, .int 0, .ref q7, .null, .null, .null, .null, .null, .null, .null, .null, .null, .null, .int 0, .int 0, .int 0, .int 0, .int 0])), (q7, .inl (kI, 61, .inl (fun _ => 0))), (q15, .inl (kI, 61, .inl (fun _ => 0)))] := hD
  refine va_putF (D := (dC, dI)) (ci := 7) (v := .ref q15) (ty := .array .int) (C := RMd) (T := TMd) (N := 24) hx hb hts (by decide +kernel) tyMd tyMd_ok nmMd hown hK hP hD hS 0 rfl rfl 9 (by decide) (hts (.fieldLink RMd 13 "DeclarativeRowsModel" "names" "[I") (by decide +kernel)) (fun _ h9 => h9) rfl hin rfl (by decide +kernel) rfl rfl (Nat.le_of_ble_eq_true rfl) dMd_init_17 (fun H locs hP hD hS => ?_)
  have hP : va_P (dC, dI) vwCl [(h0, .inr (7, [.int 0, .int 0, .int 0, .int 0, .int 0, .int 0, .int 0, .int 0, .ref q7, .ref q15, .null, .null, .null, .null, .null, .null, .null, .null, .null, .int 0, .int 0, .int 0, .int 0, .int 0])), (q7, .inl (kI, 61, .inl (fun _ => 0))), (q15, .inl (kI, 61, .inl (fun _ => 0)))] H := hP
  have hD : va_D A [(h0, .inr (7, [.int 0, .int 0, .int 0, .int 0, .int 0, .int 0, .int 0, .int 0, .ref q7, .ref q15, .null, .null, .null, .null, .null, .null, .null, .null, .null, .int 0, .int 0, .int 0, .int 0, .int 0])), (q7, .inl (kI, 61, .inl (fun _ => 0))), (q15, .inl (kI, 61, .inl (fun _ => 0)))] := hD
  refine lv_aload_n hx hb dMd_init_20 rfl (lv_at hl 0 rfl) ?_
  refine lv_bipush (v := 61) hx hb dMd_init_21 (by decide) ?_
  refine xx_newi hx hb (hts (.arrayClass .int) (by decide +kernel)) hK hP hD hS hA (N := 61) (by decide) (by decide) (by decide) (Nat.le_of_ble_eq_true rfl) (Nat.le_of_ble_eq_true rfl) dMd_init_23 (fun q23 H hP hD hS => ?_)
  have hP : va_P (dC, dI) vwCl [(h0, .inr (7, [.int 0, .int 0, .int 0, .int 0, .int 0, .int 0, .int 0, .int 0, .ref q7, .ref q15, .null, .null, .null, .null, .null, .null, .null, .null, .null, .int 0, .int 0, .int 0, .int 0, .int 0])), (q7, .inl (kI, 61, .inl (fun _ => 0))), (q15, .inl (kI, 61, .inl (fun _ => 0))), (q23, .inl (kI, 61, .inl (fun _ => 0)))] H := hP
  have hD : va_D A [(h0, .inr (7, [.int 0, .int 0, .int 0, .int 0, .int 0, .int 0, .int 0, .int 0, .ref q7, .ref q15, .null, .null, .null, .null, .null, .null, .null, .null, .null, .int 0, .int 0, .int 0, .int 0, .int 0])), (q7, .inl (kI, 61, .inl (fun _ => 0))), (q15, .inl (kI, 61, .inl (fun _ => 0))), (q23, .inl (kI, 61, .inl (fun _ => 0)))] := hD
  refine va_putF (D := (dC, dI)) (ci := 7) (v := .ref q23) (ty := .array .int) (C := RMd) (T := TMd) (N := 24) hx hb hts (by decide +kernel) tyMd tyMd_ok nmMd hown hK hP hD hS 0 rfl rfl 10 (by decide) (hts (.fieldLink RMd 16 "DeclarativeRowsModel" "aboves" "[I") (by decide +kernel)) (fun _ h9 => h9) rfl hin rfl (by decide +kernel) rfl rfl (Nat.le_of_ble_eq_true rfl) dMd_init_25 (fun H locs hP hD hS => ?_)
  have hP : va_P (dC, dI) vwCl [(h0, .inr (7, [.int 0, .int 0, .int 0, .int 0, .int 0, .int 0, .int 0, .int 0, .ref q7, .ref q15, .ref q23, .null, .null, .null, .null, .null, .null, .null, .null, .int 0, .int 0, .int 0, .int 0, .int 0])), (q7, .inl (kI, 61, .inl (fun _ => 0))), (q15, .inl (kI, 61, .inl (fun _ => 0))), (q23, .inl (kI, 61, .inl (fun _ => 0)))] H := hP
  have hD : va_D A [(h0, .inr (7, [.int 0, .int 0, .int 0, .int 0, .int 0, .int 0, .int 0, .int 0, .ref q7, .ref q15, .ref q23, .null, .null, .null, .null, .null, .null, .null, .null, .int 0, .int 0, .int 0, .int 0, .int 0])), (q7, .inl (kI, 61, .inl (fun _ => 0))), (q15, .inl (kI, 61, .inl (fun _ => 0))), (q23, .inl (kI, 61, .inl (fun _ => 0)))] := hD
  refine lv_aload_n hx hb dMd_init_28 rfl (lv_at hl 0 rfl) ?_
  refine lv_bipush (v := 100) hx hb dMd_init_29 (by decide) ?_
  refine xx_newi hx hb (hts (.arrayClass .int) (by decide +kernel)) hK hP hD hS hA (N := 100) (by decide) (by decide) (by decide) (Nat.le_of_ble_eq_true rfl) (Nat.le_of_ble_eq_true rfl) dMd_init_31 (fun q31 H hP hD hS => ?_)
  have hP : va_P (dC, dI) vwCl [(h0, .inr (7, [.int 0, .int 0, .int 0, .int 0, .int 0, .int 0, .int 0, .int 0, .ref q7, .ref q15, .ref q23, .null, .null, .null, .null, .null, .null, .null, .null, .int 0, .int 0, .int 0, .int 0, .int 0])), (q7, .inl (kI, 61, .inl (fun _ => 0))), (q15, .inl (kI, 61, .inl (fun _ => 0))), (q23, .inl (kI, 61, .inl (fun _ => 0))), (q31, .inl (kI, 100, .inl (fun _ => 0)))] H := hP
  have hD : va_D A [(h0, .inr (7, [.int 0, .int 0, .int 0, .int 0, .int 0, .int 0, .int 0, .int 0, .ref q7, .ref q15, .ref q23, .null, .null, .null, .null, .null, .null, .null, .null, .int 0, .int 0, .int 0, .int 0, .int 0])), (q7, .inl (kI, 61, .inl (fun _ => 0))), (q15, .inl (kI, 61, .inl (fun _ => 0))), (q23, .inl (kI, 61, .inl (fun _ => 0))), (q31, .inl (kI, 100, .inl (fun _ => 0)))] := hD
  refine va_putF (D := (dC, dI)) (ci := 7) (v := .ref q31) (ty := .array .int) (C := RMd) (T := TMd) (N := 24) hx hb hts (by decide +kernel) tyMd tyMd_ok nmMd hown hK hP hD hS 0 rfl rfl 11 (by decide) (hts (.fieldLink RMd 19 "DeclarativeRowsModel" "checked" "[I") (by decide +kernel)) (fun _ h9 => h9) rfl hin rfl (by decide +kernel) rfl rfl (Nat.le_of_ble_eq_true rfl) dMd_init_33 (fun H locs hP hD hS => ?_)
  have hP : va_P (dC, dI) vwCl [(h0, .inr (7, [.int 0, .int 0, .int 0, .int 0, .int 0, .int 0, .int 0, .int 0, .ref q7, .ref q15, .ref q23, .ref q31, .null, .null, .null, .null, .null, .null, .null, .int 0, .int 0, .int 0, .int 0, .int 0])), (q7, .inl (kI, 61, .inl (fun _ => 0))), (q15, .inl (kI, 61, .inl (fun _ => 0))), (q23, .inl (kI, 61, .inl (fun _ => 0))), (q31, .inl (kI, 100, .inl (fun _ => 0)))] H := hP
  have hD : va_D A [(h0, .inr (7, [.int 0, .int 0, .int 0, .int 0, .int 0, .int 0, .int 0, .int 0, .ref q7, .ref q15, .ref q23, .ref q31, .null, .null, .null, .null, .null, .null, .null, .int 0, .int 0, .int 0, .int 0, .int 0])), (q7, .inl (kI, 61, .inl (fun _ => 0))), (q15, .inl (kI, 61, .inl (fun _ => 0))), (q23, .inl (kI, 61, .inl (fun _ => 0))), (q31, .inl (kI, 100, .inl (fun _ => 0)))] := hD
  refine lv_aload_n hx hb dMd_init_36 rfl (lv_at hl 0 rfl) ?_
  refine lv_bipush (v := 100) hx hb dMd_init_37 (by decide) ?_
  refine xx_newi hx hb (hts (.arrayClass .int) (by decide +kernel)) hK hP hD hS hA (N := 100) (by decide) (by decide) (by decide) (Nat.le_of_ble_eq_true rfl) (Nat.le_of_ble_eq_true rfl) dMd_init_39 (fun q39 H hP hD hS => ?_)
  have hP : va_P (dC, dI) vwCl [(h0, .inr (7, [.int 0, .int 0, .int 0, .int 0, .int 0, .int 0, .int 0, .int 0, .ref q7, .ref q15, .ref q23, .ref q31, .null, .null, .null, .null, .null, .null, .null, .int 0, .int 0, .int 0, .int 0, .int 0])), (q7, .inl (kI, 61, .inl (fun _ => 0))), (q15, .inl (kI, 61, .inl (fun _ => 0))), (q23, .inl (kI, 61, .inl (fun _ => 0))), (q31, .inl (kI, 100, .inl (fun _ => 0))), (q39, .inl (kI, 100, .inl (fun _ => 0)))] H := hP
  have hD : va_D A [(h0, .inr (7, [.int 0, .int 0, .int 0, .int 0, .int 0, .int 0, .int 0, .int 0, .ref q7, .ref q15, .ref q23, .ref q31, .null, .null, .null, .null, .null, .null, .null, .int 0, .int 0, .int 0, .int 0, .int 0])), (q7, .inl (kI, 61, .inl (fun _ => 0))), (q15, .inl (kI, 61, .inl (fun _ => 0))), (q23, .inl (kI, 61, .inl (fun _ => 0))), (q31, .inl (kI, 100, .inl (fun _ => 0))), (q39, .inl (kI, 100, .inl (fun _ => 0)))] := hD
  refine va_putF (D := (dC, dI)) (ci := 7) (v := .ref q39) (ty := .array .int) (C := RMd) (T := TMd) (N := 24) hx hb hts (by decide +kernel) tyMd tyMd_ok nmMd hown hK hP hD hS 0 rfl rfl 12 (by decide) (hts (.fieldLink RMd 22 "DeclarativeRowsModel" "froms" "[I") (by decide +kernel)) (fun _ h9 => h9) rfl hin rfl (by decide +kernel) rfl rfl (Nat.le_of_ble_eq_true rfl) dMd_init_41 (fun H locs hP hD hS => ?_)
  have hP : va_P (dC, dI) vwCl [(h0, .inr (7, [.int 0, .int 0, .int 0, .int 0, .int 0, .int 0, .int 0, .int 0, .ref q7, .ref q15, .ref q23, .ref q31, .ref q39, .null, .null, .null, .null, .null, .null, .int 0, .int 0, .int 0, .int 0, .int 0])), (q7, .inl (kI, 61, .inl (fun _ => 0))), (q15, .inl (kI, 61, .inl (fun _ => 0))), (q23, .inl (kI, 61, .inl (fun _ => 0))), (q31, .inl (kI, 100, .inl (fun _ => 0))), (q39, .inl (kI, 100, .inl (fun _ => 0)))] H := hP
  have hD : va_D A [(h0, .inr (7, [.int 0, .int 0, .int 0, .int 0, .int 0, .int 0, .int 0, .int 0, .ref q7, .ref q15, .ref q23, .ref q31, .ref q39, .null, .null, .null, .null, .null, .null, .int 0, .int 0, .int 0, .int 0, .int 0])), (q7, .inl (kI, 61, .inl (fun _ => 0))), (q15, .inl (kI, 61, .inl (fun _ => 0))), (q23, .inl (kI, 61, .inl (fun _ => 0))), (q31, .inl (kI, 100, .inl (fun _ => 0))), (q39, .inl (kI, 100, .inl (fun _ => 0)))] := hD
  refine lv_aload_n hx hb dMd_init_44 rfl (lv_at hl 0 rfl) ?_
  refine lv_bipush (v := 100) hx hb dMd_init_45 (by decide) ?_
  refine xx_newz hx hb (hts (.arrayClass .boolean) (by decide +kernel)) hK hP hD hS hA (N := 100) (by decide) (by decide) (by decide) (Nat.le_of_ble_eq_true rfl) (Nat.le_of_ble_eq_true rfl) dMd_init_47 (fun q47 H hP hD hS => ?_)
  have hP : va_P (dC, dI) vwCl [(h0, .inr (7, [.int 0, .int 0, .int 0, .int 0, .int 0, .int 0, .int 0, .int 0, .ref q7, .ref q15, .ref q23, .ref q31, .ref q39, .null, .null, .null, .null, .null, .null, .int 0, .int 0, .int 0, .int 0, .int 0])), (q7, .inl (kI, 61, .inl (fun _ => 0))), (q15, .inl (kI, 61, .inl (fun _ => 0))), (q23, .inl (kI, 61, .inl (fun _ => 0))), (q31, .inl (kI, 100, .inl (fun _ => 0))), (q39, .inl (kI, 100, .inl (fun _ => 0))), (q47, .inl (kZ, 100, .inl (fun _ => 0)))] H := hP
  have hD : va_D A [(h0, .inr (7, [.int 0, .int 0, .int 0, .int 0, .int 0, .int 0, .int 0, .int 0, .ref q7, .ref q15, .ref q23, .ref q31, .ref q39, .null, .null, .null, .null, .null, .null, .int 0, .int 0, .int 0, .int 0, .int 0])), (q7, .inl (kI, 61, .inl (fun _ => 0))), (q15, .inl (kI, 61, .inl (fun _ => 0))), (q23, .inl (kI, 61, .inl (fun _ => 0))), (q31, .inl (kI, 100, .inl (fun _ => 0))), (q39, .inl (kI, 100, .inl (fun _ => 0))), (q47, .inl (kZ, 100, .inl (fun _ => 0)))] := hD
  refine va_putF (D := (dC, dI)) (ci := 7) (v := .ref q47) (ty := .array .boolean) (C := RMd) (T := TMd) (N := 24) hx hb hts (by decide +kernel) tyMd tyMd_ok nmMd hown hK hP hD hS 0 rfl rfl 13 (by decide) (hts (.fieldLink RMd 25 "DeclarativeRowsModel" "ons" "[Z") (by decide +kernel)) (fun _ h9 => h9) rfl hin rfl (by decide +kernel) rfl rfl (Nat.le_of_ble_eq_true rfl) dMd_init_49 (fun H locs hP hD hS => ?_)
  have hP : va_P (dC, dI) vwCl [(h0, .inr (7, [.int 0, .int 0, .int 0, .int 0, .int 0, .int 0, .int 0, .int 0, .ref q7, .ref q15, .ref q23, .ref q31, .ref q39, .ref q47, .null, .null, .null, .null, .null, .int 0, .int 0, .int 0, .int 0, .int 0])), (q7, .inl (kI, 61, .inl (fun _ => 0))), (q15, .inl (kI, 61, .inl (fun _ => 0))), (q23, .inl (kI, 61, .inl (fun _ => 0))), (q31, .inl (kI, 100, .inl (fun _ => 0))), (q39, .inl (kI, 100, .inl (fun _ => 0))), (q47, .inl (kZ, 100, .inl (fun _ => 0)))] H := hP
  have hD : va_D A [(h0, .inr (7, [.int 0, .int 0, .int 0, .int 0, .int 0, .int 0, .int 0, .int 0, .ref q7, .ref q15, .ref q23, .ref q31, .ref q39, .ref q47, .null, .null, .null, .null, .null, .int 0, .int 0, .int 0, .int 0, .int 0])), (q7, .inl (kI, 61, .inl (fun _ => 0))), (q15, .inl (kI, 61, .inl (fun _ => 0))), (q23, .inl (kI, 61, .inl (fun _ => 0))), (q31, .inl (kI, 100, .inl (fun _ => 0))), (q39, .inl (kI, 100, .inl (fun _ => 0))), (q47, .inl (kZ, 100, .inl (fun _ => 0)))] := hD
  refine lv_aload_n hx hb dMd_init_52 rfl (lv_at hl 0 rfl) ?_
  refine lv_bipush (v := 31) hx hb dMd_init_53 (by decide) ?_
  refine xx_newi hx hb (hts (.arrayClass .int) (by decide +kernel)) hK hP hD hS hA (N := 31) (by decide) (by decide) (by decide) (Nat.le_of_ble_eq_true rfl) (Nat.le_of_ble_eq_true rfl) dMd_init_55 (fun q55 H hP hD hS => ?_)
  have hP : va_P (dC, dI) vwCl [(h0, .inr (7, [.int 0, .int 0, .int 0, .int 0, .int 0, .int 0, .int 0, .int 0, .ref q7, .ref q15, .ref q23, .ref q31, .ref q39, .ref q47, .null, .null, .null, .null, .null, .int 0, .int 0, .int 0, .int 0, .int 0])), (q7, .inl (kI, 61, .inl (fun _ => 0))), (q15, .inl (kI, 61, .inl (fun _ => 0))), (q23, .inl (kI, 61, .inl (fun _ => 0))), (q31, .inl (kI, 100, .inl (fun _ => 0))), (q39, .inl (kI, 100, .inl (fun _ => 0))), (q47, .inl (kZ, 100, .inl (fun _ => 0))), (q55, .inl (kI, 31, .inl (fun _ => 0)))] H := hP
  have hD : va_D A [(h0, .inr (7, [.int 0, .int 0, .int 0, .int 0, .int 0, .int 0, .int 0, .int 0, .ref q7, .ref q15, .ref q23, .ref q31, .ref q39, .ref q47, .null, .null, .null, .null, .null, .int 0, .int 0, .int 0, .int 0, .int 0])), (q7, .inl (kI, 61, .inl (fun _ => 0))), (q15, .inl (kI, 61, .inl (fun _ => 0))), (q23, .inl (kI, 61, .inl (fun _ => 0))), (q31, .inl (kI, 100, .inl (fun _ => 0))), (q39, .inl (kI, 100, .inl (fun _ => 0))), (q47, .inl (kZ, 100, .inl (fun _ => 0))), (q55, .inl (kI, 31, .inl (fun _ => 0)))] := hD
  refine va_putF (D := (dC, dI)) (ci := 7) (v := .ref q55) (ty := .array .int) (C := RMd) (T := TMd) (N := 24) hx hb hts (by decide +kernel) tyMd tyMd_ok nmMd hown hK hP hD hS 0 rfl rfl 14 (by decide) (hts (.fieldLink RMd 29 "DeclarativeRowsModel" "kinds" "[I") (by decide +kernel)) (fun _ h9 => h9) rfl hin rfl (by decide +kernel) rfl rfl (Nat.le_of_ble_eq_true rfl) dMd_init_57 (fun H locs hP hD hS => ?_)
  have hP : va_P (dC, dI) vwCl [(h0, .inr (7, [.int 0, .int 0, .int 0, .int 0, .int 0, .int 0, .int 0, .int 0, .ref q7, .ref q15, .ref q23, .ref q31, .ref q39, .ref q47, .ref q55, .null, .null, .null, .null, .int 0, .int 0, .int 0, .int 0, .int 0])), (q7, .inl (kI, 61, .inl (fun _ => 0))), (q15, .inl (kI, 61, .inl (fun _ => 0))), (q23, .inl (kI, 61, .inl (fun _ => 0))), (q31, .inl (kI, 100, .inl (fun _ => 0))), (q39, .inl (kI, 100, .inl (fun _ => 0))), (q47, .inl (kZ, 100, .inl (fun _ => 0))), (q55, .inl (kI, 31, .inl (fun _ => 0)))] H := hP
  have hD : va_D A [(h0, .inr (7, [.int 0, .int 0, .int 0, .int 0, .int 0, .int 0, .int 0, .int 0, .ref q7, .ref q15, .ref q23, .ref q31, .ref q39, .ref q47, .ref q55, .null, .null, .null, .null, .int 0, .int 0, .int 0, .int 0, .int 0])), (q7, .inl (kI, 61, .inl (fun _ => 0))), (q15, .inl (kI, 61, .inl (fun _ => 0))), (q23, .inl (kI, 61, .inl (fun _ => 0))), (q31, .inl (kI, 100, .inl (fun _ => 0))), (q39, .inl (kI, 100, .inl (fun _ => 0))), (q47, .inl (kZ, 100, .inl (fun _ => 0))), (q55, .inl (kI, 31, .inl (fun _ => 0)))] := hD
  refine lv_aload_n hx hb dMd_init_60 rfl (lv_at hl 0 rfl) ?_
  refine lv_bipush (v := 31) hx hb dMd_init_61 (by decide) ?_
  refine xx_newi hx hb (hts (.arrayClass .int) (by decide +kernel)) hK hP hD hS hA (N := 31) (by decide) (by decide) (by decide) (Nat.le_of_ble_eq_true rfl) (Nat.le_of_ble_eq_true rfl) dMd_init_63 (fun q63 H hP hD hS => ?_)
  have hP : va_P (dC, dI) vwCl [(h0, .inr (7, [.int 0, .int 0, .int 0, .int 0, .int 0, .int 0, .int 0, .int 0, .ref q7, .ref q15, .ref q23, .ref q31, .ref q39, .ref q47, .ref q55, .null, .null, .null, .null, .int 0, .int 0, .int 0, .int 0, .int 0])), (q7, .inl (kI, 61, .inl (fun _ => 0))), (q15, .inl (kI, 61, .inl (fun _ => 0))), (q23, .inl (kI, 61, .inl (fun _ => 0))), (q31, .inl (kI, 100, .inl (fun _ => 0))), (q39, .inl (kI, 100, .inl (fun _ => 0))), (q47, .inl (kZ, 100, .inl (fun _ => 0))), (q55, .inl (kI, 31, .inl (fun _ => 0))), (q63, .inl (kI, 31, .inl (fun _ => 0)))] H := hP
  have hD : va_D A [(h0, .inr (7, [.int 0, .int 0, .int 0, .int 0, .int 0, .int 0, .int 0, .int 0, .ref q7, .ref q15, .ref q23, .ref q31, .ref q39, .ref q47, .ref q55, .null, .null, .null, .null, .int 0, .int 0, .int 0, .int 0, .int 0])), (q7, .inl (kI, 61, .inl (fun _ => 0))), (q15, .inl (kI, 61, .inl (fun _ => 0))), (q23, .inl (kI, 61, .inl (fun _ => 0))), (q31, .inl (kI, 100, .inl (fun _ => 0))), (q39, .inl (kI, 100, .inl (fun _ => 0))), (q47, .inl (kZ, 100, .inl (fun _ => 0))), (q55, .inl (kI, 31, .inl (fun _ => 0))), (q63, .inl (kI, 31, .inl (fun _ => 0)))] := hD
  refine va_putF (D := (dC, dI)) (ci := 7) (v := .ref q63) (ty := .array .int) (C := RMd) (T := TMd) (N := 24) hx hb hts (by decide +kernel) tyMd tyMd_ok nmMd hown hK hP hD hS 0 rfl rfl 15 (by decide) (hts (.fieldLink RMd 32 "DeclarativeRowsModel" "ofs" "[I") (by decide +kernel)) (fun _ h9 => h9) rfl hin rfl (by decide +kernel) rfl rfl (Nat.le_of_ble_eq_true rfl) dMd_init_65 (fun H locs hP hD hS => ?_)
  have hP : va_P (dC, dI) vwCl [(h0, .inr (7, [.int 0, .int 0, .int 0, .int 0, .int 0, .int 0, .int 0, .int 0, .ref q7, .ref q15, .ref q23, .ref q31, .ref q39, .ref q47, .ref q55, .ref q63, .null, .null, .null, .int 0, .int 0, .int 0, .int 0, .int 0])), (q7, .inl (kI, 61, .inl (fun _ => 0))), (q15, .inl (kI, 61, .inl (fun _ => 0))), (q23, .inl (kI, 61, .inl (fun _ => 0))), (q31, .inl (kI, 100, .inl (fun _ => 0))), (q39, .inl (kI, 100, .inl (fun _ => 0))), (q47, .inl (kZ, 100, .inl (fun _ => 0))), (q55, .inl (kI, 31, .inl (fun _ => 0))), (q63, .inl (kI, 31, .inl (fun _ => 0)))] H := hP
  have hD : va_D A [(h0, .inr (7, [.int 0, .int 0, .int 0, .int 0, .int 0, .int 0, .int 0, .int 0, .ref q7, .ref q15, .ref q23, .ref q31, .ref q39, .ref q47, .ref q55, .ref q63, .null, .null, .null, .int 0, .int 0, .int 0, .int 0, .int 0])), (q7, .inl (kI, 61, .inl (fun _ => 0))), (q15, .inl (kI, 61, .inl (fun _ => 0))), (q23, .inl (kI, 61, .inl (fun _ => 0))), (q31, .inl (kI, 100, .inl (fun _ => 0))), (q39, .inl (kI, 100, .inl (fun _ => 0))), (q47, .inl (kZ, 100, .inl (fun _ => 0))), (q55, .inl (kI, 31, .inl (fun _ => 0))), (q63, .inl (kI, 31, .inl (fun _ => 0)))] := hD
  refine lv_aload_n hx hb dMd_init_68 rfl (lv_at hl 0 rfl) ?_
  refine lv_bipush (v := 20) hx hb dMd_init_69 (by decide) ?_
  refine xx_newi hx hb (hts (.arrayClass .int) (by decide +kernel)) hK hP hD hS hA (N := 20) (by decide) (by decide) (by decide) (Nat.le_of_ble_eq_true rfl) (Nat.le_of_ble_eq_true rfl) dMd_init_71 (fun q71 H hP hD hS => ?_)
  have hP : va_P (dC, dI) vwCl [(h0, .inr (7, [.int 0, .int 0, .int 0, .int 0, .int 0, .int 0, .int 0, .int 0, .ref q7, .ref q15, .ref q23, .ref q31, .ref q39, .ref q47, .ref q55, .ref q63, .null, .null, .null, .int 0, .int 0, .int 0, .int 0, .int 0])), (q7, .inl (kI, 61, .inl (fun _ => 0))), (q15, .inl (kI, 61, .inl (fun _ => 0))), (q23, .inl (kI, 61, .inl (fun _ => 0))), (q31, .inl (kI, 100, .inl (fun _ => 0))), (q39, .inl (kI, 100, .inl (fun _ => 0))), (q47, .inl (kZ, 100, .inl (fun _ => 0))), (q55, .inl (kI, 31, .inl (fun _ => 0))), (q63, .inl (kI, 31, .inl (fun _ => 0))), (q71, .inl (kI, 20, .inl (fun _ => 0)))] H := hP
  have hD : va_D A [(h0, .inr (7, [.int 0, .int 0, .int 0, .int 0, .int 0, .int 0, .int 0, .int 0, .ref q7, .ref q15, .ref q23, .ref q31, .ref q39, .ref q47, .ref q55, .ref q63, .null, .null, .null, .int 0, .int 0, .int 0, .int 0, .int 0])), (q7, .inl (kI, 61, .inl (fun _ => 0))), (q15, .inl (kI, 61, .inl (fun _ => 0))), (q23, .inl (kI, 61, .inl (fun _ => 0))), (q31, .inl (kI, 100, .inl (fun _ => 0))), (q39, .inl (kI, 100, .inl (fun _ => 0))), (q47, .inl (kZ, 100, .inl (fun _ => 0))), (q55, .inl (kI, 31, .inl (fun _ => 0))), (q63, .inl (kI, 31, .inl (fun _ => 0))), (q71, .inl (kI, 20, .inl (fun _ => 0)))] := hD
  refine va_putF (D := (dC, dI)) (ci := 7) (v := .ref q71) (ty := .array .int) (C := RMd) (T := TMd) (N := 24) hx hb hts (by decide +kernel) tyMd tyMd_ok nmMd hown hK hP hD hS 0 rfl rfl 16 (by decide) (hts (.fieldLink RMd 35 "DeclarativeRowsModel" "modes" "[I") (by decide +kernel)) (fun _ h9 => h9) rfl hin rfl (by decide +kernel) rfl rfl (Nat.le_of_ble_eq_true rfl) dMd_init_73 (fun H locs hP hD hS => ?_)
  have hP : va_P (dC, dI) vwCl [(h0, .inr (7, [.int 0, .int 0, .int 0, .int 0, .int 0, .int 0, .int 0, .int 0, .ref q7, .ref q15, .ref q23, .ref q31, .ref q39, .ref q47, .ref q55, .ref q63, .ref q71, .null, .null, .int 0, .int 0, .int 0, .int 0, .int 0])), (q7, .inl (kI, 61, .inl (fun _ => 0))), (q15, .inl (kI, 61, .inl (fun _ => 0))), (q23, .inl (kI, 61, .inl (fun _ => 0))), (q31, .inl (kI, 100, .inl (fun _ => 0))), (q39, .inl (kI, 100, .inl (fun _ => 0))), (q47, .inl (kZ, 100, .inl (fun _ => 0))), (q55, .inl (kI, 31, .inl (fun _ => 0))), (q63, .inl (kI, 31, .inl (fun _ => 0))), (q71, .inl (kI, 20, .inl (fun _ => 0)))] H := hP
  have hD : va_D A [(h0, .inr (7, [.int 0, .int 0, .int 0, .int 0, .int 0, .int 0, .int 0, .int 0, .ref q7, .ref q15, .ref q23, .ref q31, .ref q39, .ref q47, .ref q55, .ref q63, .ref q71, .null, .null, .int 0, .int 0, .int 0, .int 0, .int 0])), (q7, .inl (kI, 61, .inl (fun _ => 0))), (q15, .inl (kI, 61, .inl (fun _ => 0))), (q23, .inl (kI, 61, .inl (fun _ => 0))), (q31, .inl (kI, 100, .inl (fun _ => 0))), (q39, .inl (kI, 100, .inl (fun _ => 0))), (q47, .inl (kZ, 100, .inl (fun _ => 0))), (q55, .inl (kI, 31, .inl (fun _ => 0))), (q63, .inl (kI, 31, .inl (fun _ => 0))), (q71, .inl (kI, 20, .inl (fun _ => 0)))] := hD
  refine lv_aload_n hx hb dMd_init_76 rfl (lv_at hl 0 rfl) ?_
  refine lv_bipush (v := 10) hx hb dMd_init_77 (by decide) ?_
  refine xx_newi hx hb (hts (.arrayClass .int) (by decide +kernel)) hK hP hD hS hA (N := 10) (by decide) (by decide) (by decide) (Nat.le_of_ble_eq_true rfl) (Nat.le_of_ble_eq_true rfl) dMd_init_79 (fun q79 H hP hD hS => ?_)
  have hP : va_P (dC, dI) vwCl [(h0, .inr (7, [.int 0, .int 0, .int 0, .int 0, .int 0, .int 0, .int 0, .int 0, .ref q7, .ref q15, .ref q23, .ref q31, .ref q39, .ref q47, .ref q55, .ref q63, .ref q71, .null, .null, .int 0, .int 0, .int 0, .int 0, .int 0])), (q7, .inl (kI, 61, .inl (fun _ => 0))), (q15, .inl (kI, 61, .inl (fun _ => 0))), (q23, .inl (kI, 61, .inl (fun _ => 0))), (q31, .inl (kI, 100, .inl (fun _ => 0))), (q39, .inl (kI, 100, .inl (fun _ => 0))), (q47, .inl (kZ, 100, .inl (fun _ => 0))), (q55, .inl (kI, 31, .inl (fun _ => 0))), (q63, .inl (kI, 31, .inl (fun _ => 0))), (q71, .inl (kI, 20, .inl (fun _ => 0))), (q79, .inl (kI, 10, .inl (fun _ => 0)))] H := hP
  have hD : va_D A [(h0, .inr (7, [.int 0, .int 0, .int 0, .int 0, .int 0, .int 0, .int 0, .int 0, .ref q7, .ref q15, .ref q23, .ref q31, .ref q39, .ref q47, .ref q55, .ref q63, .ref q71, .null, .null, .int 0, .int 0, .int 0, .int 0, .int 0])), (q7, .inl (kI, 61, .inl (fun _ => 0))), (q15, .inl (kI, 61, .inl (fun _ => 0))), (q23, .inl (kI, 61, .inl (fun _ => 0))), (q31, .inl (kI, 100, .inl (fun _ => 0))), (q39, .inl (kI, 100, .inl (fun _ => 0))), (q47, .inl (kZ, 100, .inl (fun _ => 0))), (q55, .inl (kI, 31, .inl (fun _ => 0))), (q63, .inl (kI, 31, .inl (fun _ => 0))), (q71, .inl (kI, 20, .inl (fun _ => 0))), (q79, .inl (kI, 10, .inl (fun _ => 0)))] := hD
  refine va_putF (D := (dC, dI)) (ci := 7) (v := .ref q79) (ty := .array .int) (C := RMd) (T := TMd) (N := 24) hx hb hts (by decide +kernel) tyMd tyMd_ok nmMd hown hK hP hD hS 0 rfl rfl 17 (by decide) (hts (.fieldLink RMd 38 "DeclarativeRowsModel" "runs" "[I") (by decide +kernel)) (fun _ h9 => h9) rfl hin rfl (by decide +kernel) rfl rfl (Nat.le_of_ble_eq_true rfl) dMd_init_81 (fun H locs hP hD hS => ?_)
  have hP : va_P (dC, dI) vwCl [(h0, .inr (7, [.int 0, .int 0, .int 0, .int 0, .int 0, .int 0, .int 0, .int 0, .ref q7, .ref q15, .ref q23, .ref q31, .ref q39, .ref q47, .ref q55, .ref q63, .ref q71, .ref q79, .null, .int 0, .int 0, .int 0, .int 0, .int 0])), (q7, .inl (kI, 61, .inl (fun _ => 0))), (q15, .inl (kI, 61, .inl (fun _ => 0))), (q23, .inl (kI, 61, .inl (fun _ => 0))), (q31, .inl (kI, 100, .inl (fun _ => 0))), (q39, .inl (kI, 100, .inl (fun _ => 0))), (q47, .inl (kZ, 100, .inl (fun _ => 0))), (q55, .inl (kI, 31, .inl (fun _ => 0))), (q63, .inl (kI, 31, .inl (fun _ => 0))), (q71, .inl (kI, 20, .inl (fun _ => 0))), (q79, .inl (kI, 10, .inl (fun _ => 0)))] H := hP
  have hD : va_D A [(h0, .inr (7, [.int 0, .int 0, .int 0, .int 0, .int 0, .int 0, .int 0, .int 0, .ref q7, .ref q15, .ref q23, .ref q31, .ref q39, .ref q47, .ref q55, .ref q63, .ref q71, .ref q79, .null, .int 0, .int 0, .int 0, .int 0, .int 0])), (q7, .inl (kI, 61, .inl (fun _ => 0))), (q15, .inl (kI, 61, .inl (fun _ => 0))), (q23, .inl (kI, 61, .inl (fun _ => 0))), (q31, .inl (kI, 100, .inl (fun _ => 0))), (q39, .inl (kI, 100, .inl (fun _ => 0))), (q47, .inl (kZ, 100, .inl (fun _ => 0))), (q55, .inl (kI, 31, .inl (fun _ => 0))), (q63, .inl (kI, 31, .inl (fun _ => 0))), (q71, .inl (kI, 20, .inl (fun _ => 0))), (q79, .inl (kI, 10, .inl (fun _ => 0)))] := hD
  refine lv_aload_n hx hb dMd_init_84 rfl (lv_at hl 0 rfl) ?_
  refine lv_bipush (v := 10) hx hb dMd_init_85 (by decide) ?_
  refine xx_newi hx hb (hts (.arrayClass .int) (by decide +kernel)) hK hP hD hS hA (N := 10) (by decide) (by decide) (by decide) (Nat.le_of_ble_eq_true rfl) (Nat.le_of_ble_eq_true rfl) dMd_init_87 (fun q87 H hP hD hS => ?_)
  have hP : va_P (dC, dI) vwCl [(h0, .inr (7, [.int 0, .int 0, .int 0, .int 0, .int 0, .int 0, .int 0, .int 0, .ref q7, .ref q15, .ref q23, .ref q31, .ref q39, .ref q47, .ref q55, .ref q63, .ref q71, .ref q79, .null, .int 0, .int 0, .int 0, .int 0, .int 0])), (q7, .inl (kI, 61, .inl (fun _ => 0))), (q15, .inl (kI, 61, .inl (fun _ => 0))), (q23, .inl (kI, 61, .inl (fun _ => 0))), (q31, .inl (kI, 100, .inl (fun _ => 0))), (q39, .inl (kI, 100, .inl (fun _ => 0))), (q47, .inl (kZ, 100, .inl (fun _ => 0))), (q55, .inl (kI, 31, .inl (fun _ => 0))), (q63, .inl (kI, 31, .inl (fun _ => 0))), (q71, .inl (kI, 20, .inl (fun _ => 0))), (q79, .inl (kI, 10, .inl (fun _ => 0))), (q87, .inl (kI, 10, .inl (fun _ => 0)))] H := hP
  have hD : va_D A [(h0, .inr (7, [.int 0, .int 0, .int 0, .int 0, .int 0, .int 0, .int 0, .int 0, .ref q7, .ref q15, .ref q23, .ref q31, .ref q39, .ref q47, .ref q55, .ref q63, .ref q71, .ref q79, .null, .int 0, .int 0, .int 0, .int 0, .int 0])), (q7, .inl (kI, 61, .inl (fun _ => 0))), (q15, .inl (kI, 61, .inl (fun _ => 0))), (q23, .inl (kI, 61, .inl (fun _ => 0))), (q31, .inl (kI, 100, .inl (fun _ => 0))), (q39, .inl (kI, 100, .inl (fun _ => 0))), (q47, .inl (kZ, 100, .inl (fun _ => 0))), (q55, .inl (kI, 31, .inl (fun _ => 0))), (q63, .inl (kI, 31, .inl (fun _ => 0))), (q71, .inl (kI, 20, .inl (fun _ => 0))), (q79, .inl (kI, 10, .inl (fun _ => 0))), (q87, .inl (kI, 10, .inl (fun _ => 0)))] := hD
  refine va_putF (D := (dC, dI)) (ci := 7) (v := .ref q87) (ty := .array .int) (C := RMd) (T := TMd) (N := 24) hx hb hts (by decide +kernel) tyMd tyMd_ok nmMd hown hK hP hD hS 0 rfl rfl 18 (by decide) (hts (.fieldLink RMd 41 "DeclarativeRowsModel" "places" "[I") (by decide +kernel)) (fun _ h9 => h9) rfl hin rfl (by decide +kernel) rfl rfl (Nat.le_of_ble_eq_true rfl) dMd_init_89 (fun H locs hP hD hS => ?_)
  have hP : va_P (dC, dI) vwCl [(h0, .inr (7, [.int 0, .int 0, .int 0, .int 0, .int 0, .int 0, .int 0, .int 0, .ref q7, .ref q15, .ref q23, .ref q31, .ref q39, .ref q47, .ref q55, .ref q63, .ref q71, .ref q79, .ref q87, .int 0, .int 0, .int 0, .int 0, .int 0])), (q7, .inl (kI, 61, .inl (fun _ => 0))), (q15, .inl (kI, 61, .inl (fun _ => 0))), (q23, .inl (kI, 61, .inl (fun _ => 0))), (q31, .inl (kI, 100, .inl (fun _ => 0))), (q39, .inl (kI, 100, .inl (fun _ => 0))), (q47, .inl (kZ, 100, .inl (fun _ => 0))), (q55, .inl (kI, 31, .inl (fun _ => 0))), (q63, .inl (kI, 31, .inl (fun _ => 0))), (q71, .inl (kI, 20, .inl (fun _ => 0))), (q79, .inl (kI, 10, .inl (fun _ => 0))), (q87, .inl (kI, 10, .inl (fun _ => 0)))] H := hP
  have hD : va_D A [(h0, .inr (7, [.int 0, .int 0, .int 0, .int 0, .int 0, .int 0, .int 0, .int 0, .ref q7, .ref q15, .ref q23, .ref q31, .ref q39, .ref q47, .ref q55, .ref q63, .ref q71, .ref q79, .ref q87, .int 0, .int 0, .int 0, .int 0, .int 0])), (q7, .inl (kI, 61, .inl (fun _ => 0))), (q15, .inl (kI, 61, .inl (fun _ => 0))), (q23, .inl (kI, 61, .inl (fun _ => 0))), (q31, .inl (kI, 100, .inl (fun _ => 0))), (q39, .inl (kI, 100, .inl (fun _ => 0))), (q47, .inl (kZ, 100, .inl (fun _ => 0))), (q55, .inl (kI, 31, .inl (fun _ => 0))), (q63, .inl (kI, 31, .inl (fun _ => 0))), (q71, .inl (kI, 20, .inl (fun _ => 0))), (q79, .inl (kI, 10, .inl (fun _ => 0))), (q87, .inl (kI, 10, .inl (fun _ => 0)))] := hD
  refine lv_iconst (v := 0) hx hb dMd_init_92 (by decide) ?_
  refine lv_istore_n (lv' := [(1, .int 0), (0, .ref h0)]) hx hb dMd_init_93 rfl hl (by decide) rfl (fun ls hl => ?_)
  refine (?_ : ∀ (k j : Nat) (x1 : Int32) (F : Nat → Int32) (ls : Array Slot) (H : Heap) (locs : List Loc), lv_has ls 2 [(0, .ref h0), (1, .int x1)] → va_P (dC, dI) vwCl [(h0, .inr (7, [.int 0, .int 0, .int 0, .int 0, .int 0, .int 0, .int 0, .int 0, .ref q7, .ref q15, .ref q23, .ref q31, .ref q39, .ref q47, .ref q55, .ref q63, .ref q71, .ref q79, .ref q87, .int 0, .int 0, .int 0, .int 0, .int 0])), (q7, .inl (kI, 61, .inl (fun _ => 0))), (q15, .inl (kI, 61, .inl (fun _ => 0))), (q23, .inl (kI, 61, .inl (fun _ => 0))), (q31, .inl (kI, 100, .inl (fun _ => 0))), (q39, .inl (kI, 100, .inl (fun _ => 0))), (q47, .inl (kZ, 100, .inl (fun _ => 0))), (q55, .inl (kI, 31, .inl (fun _ => 0))), (q63, .inl (kI, 31, .inl (fun _ => 0))), (q71, .inl (kI, 20, .inl F)), (q79, .inl (kI, 10, .inl (fun _ => 0))), (q87, .inl (kI, 10, .inl (fun _ => 0)))] H → va_D A [(h0, .inr (7, [.int 0, .int 0, .int 0, .int 0, .int 0, .int 0, .int 0, .int 0, .ref q7, .ref q15, .ref q23, .ref q31, .ref q39, .ref q47, .ref q55, .ref q63, .ref q71, .ref q79, .ref q87, .int 0, .int 0, .int 0, .int 0, .int 0])), (q7, .inl (kI, 61, .inl (fun _ => 0))), (q15, .inl (kI, 61, .inl (fun _ => 0))), (q23, .inl (kI, 61, .inl (fun _ => 0))), (q31, .inl (kI, 100, .inl (fun _ => 0))), (q39, .inl (kI, 100, .inl (fun _ => 0))), (q47, .inl (kZ, 100, .inl (fun _ => 0))), (q55, .inl (kI, 31, .inl (fun _ => 0))), (q63, .inl (kI, 31, .inl (fun _ => 0))), (q71, .inl (kI, 20, .inl F)), (q79, .inl (kI, 10, .inl (fun _ => 0))), (q87, .inl (kI, 10, .inl (fun _ => 0)))] → va_S A s.heap H locs → x1 = nI j → j ≤ 20 → 20 < j + k → f_Model_init_F = f_Model_init_L94 k x1 F → W p l e _ s m _ below meth c H locs _ _ _ (F0 m 94 ls [])) 21 0 0 (fun _ => 0) ls _ _ (lv_sub hl [1, 0] rfl) hP hD hS (nI_0.symm) (by omega) (by omega) (rfl)
  intro k94
  induction k94 with
  | zero => intro j94 x1 F ls H locs hl hP hD hS hj94 hjN94 hk94 hI94; exfalso; omega
  | succ k94 ih94 =>
    intro j94 x1 F ls H locs hl hP hD hS hj94 hjN94 hk94 hI94
    refine lv_iload_n hx hb dMd_init_94 rfl (lv_at hl 1 rfl) ?_
    refine lv_bipush (v := 20) hx hb dMd_init_95 (by decide) ?_
    refine lv_icmp_ge (tgt := 113) hx hb dMd_init_97 (by decide) (fun c_1 => ?_) (fun c_1 => ?_)
    · have hE : f_Model_init_F = F := by rw [hI94, f_Model_init_L94, if_pos c_1]
      subst hE
      refine W.widen (k := 11) (n := 585) (Nat.le_of_ble_eq_true rfl) (Nat.le_of_ble_eq_true rfl) ?_
      exact W.vret hx hb hr (fun t ht hW => ⟨⟨(fun k => [h0, q7, q15, q23, q31, q39, q47, q55, q63, q71, q79, q87].getD k 0), rfl, rfl, by rw [ht]; exact hP, hD⟩, hS.F ht⟩) hS.2.2 dMd_init_113
    · have hjl : j94 < 20 := lt_of20 hj94 (by omega) c_1
      have hin20 := in_20 hj94 hjl
      refine lv_aload_n hx hb dMd_init_100 rfl (lv_at hl 0 rfl) ?_
      refine va_get (D := (dC, dI)) (ci := 7) (v := .ref q71) (C := RMd) (T := TMd) (N := 24) hx hb hts (by decide +kernel) hown hK hP 0 rfl rfl 16 (by decide) (hts (.fieldLink RMd 35 "DeclarativeRowsModel" "modes" "[I") (by decide +kernel)) (fun _ h9 => h9) rfl dMd_init_101 ?_
      refine lv_iload_n hx hb dMd_init_104 rfl (lv_at hl 1 rfl) ?_
      refine lv_iconst (v := -1) hx hb dMd_init_105 (by decide) ?_
      refine va_iast hx hb hK hP hD hS 9 0 rfl rfl (i := x1) (x := -1) (hin20) dMd_init_106 (fun H locs hP hD hS => ?_)
      have hP : va_P (dC, dI) vwCl [(h0, .inr (7, [.int 0, .int 0, .int 0, .int 0, .int 0, .int 0, .int 0, .int 0, .ref q7, .ref q15, .ref q23, .ref q31, .ref q39, .ref q47, .ref q55, .ref q63, .ref q71, .ref q79, .ref q87, .int 0, .int 0, .int 0, .int 0, .int 0])), (q7, .inl (kI, 61, .inl (fun _ => 0))), (q15, .inl (kI, 61, .inl (fun _ => 0))), (q23, .inl (kI, 61, .inl (fun _ => 0))), (q31, .inl (kI, 100, .inl (fun _ => 0))), (q39, .inl (kI, 100, .inl (fun _ => 0))), (q47, .inl (kZ, 100, .inl (fun _ => 0))), (q55, .inl (kI, 31, .inl (fun _ => 0))), (q63, .inl (kI, 31, .inl (fun _ => 0))), (q71, .inl (kI, 20, .inl (upd F x1.toNatClampNeg (-1)))), (q79, .inl (kI, 10, .inl (fun _ => 0))), (q87, .inl (kI, 10, .inl (fun _ => 0)))] H := hP
      have hD : va_D A [(h0, .inr (7, [.int 0, .int 0, .int 0, .int 0, .int 0, .int 0, .int 0, .int 0, .ref q7, .ref q15, .ref q23, .ref q31, .ref q39, .ref q47, .ref q55, .ref q63, .ref q71, .ref q79, .ref q87, .int 0, .int 0, .int 0, .int 0, .int 0])), (q7, .inl (kI, 61, .inl (fun _ => 0))), (q15, .inl (kI, 61, .inl (fun _ => 0))), (q23, .inl (kI, 61, .inl (fun _ => 0))), (q31, .inl (kI, 100, .inl (fun _ => 0))), (q39, .inl (kI, 100, .inl (fun _ => 0))), (q47, .inl (kZ, 100, .inl (fun _ => 0))), (q55, .inl (kI, 31, .inl (fun _ => 0))), (q63, .inl (kI, 31, .inl (fun _ => 0))), (q71, .inl (kI, 20, .inl (upd F x1.toNatClampNeg (-1)))), (q79, .inl (kI, 10, .inl (fun _ => 0))), (q87, .inl (kI, 10, .inl (fun _ => 0)))] := hD
      refine lv_iinc (v := (x1 + 1)) (lv' := [(1, .int (x1 + 1)), (0, .ref h0)]) hx hb dMd_init_107 hl (k := 1) rfl rfl (by decide) rfl (fun ls hl => ?_)
      refine lv_goto (tgt := 94) hx hb dMd_init_110 (by decide) ?_
      exact ih94 (j94 + 1) (x1 + 1) (upd F x1.toNatClampNeg (-1)) ls _ _ (lv_sub hl [1, 0] rfl) hP hD hS (by rw [hj94]; exact nI_1 j94) (by omega) (by omega) (by rw [hI94, f_Model_init_L94, if_neg c_1])
set_option maxHeartbeats 4000000 in
set_option maxRecDepth 100000 in
theorem m_Model_isException (l : Launch) (dC : Nat → ClassId) (dI : Nat → Nat → Nat) (kI kZ : ClassId) (ad : Nat → Nat) (S : S_Model) (x1 : Int32) : Met l yMd_isException wsMd_isException ({ frames := 0, cells := 0, slots := 0, locals := 0 }) (r_Pc dC dI kI kZ [.ref (ad 0), .int x1] (w_Model kI kZ ad S)) (r_Qc (f_Model_isException S x1)) 0 0 (fun _ => False) := by
  refine Met.ofW (cc := cMd_isException) (maxL := 2) (ret := (some .boolean)) (by decide) rfl ?_
  intro p e s m args below meth c s₁ B hml hv
  obtain ⟨rfl, hP, hX⟩ := hv
  have hK := hX.1
  have hx := B.exec
  have hb := B.bytes
  have hr := B.returns
  have hts := atoms_spec (ws := wsMd_isException) B.pre
  have hown : s.vm.findClass RMd = some m.cls := findClass_of_methodNamed B.named
  have hlocks := B.notSynchronized
  have hS : va_S (fun _ => False) s.heap s.heap [] := va_S.rf
  have hP : va_P (dC, dI) vwCl [((ad 0), .inr (7, [.int S.1, .int S.2.1, .int S.2.2.1, .int S.2.2.2.1, .int S.2.2.2.2.1, .int S.2.2.2.2.2.1, .int S.2.2.2.2.2.2.1, .int S.2.2.2.2.2.2.2.1, .ref (ad 1), .ref (ad 2), .ref (ad 3), .ref (ad 4), .ref (ad 5), .ref (ad 6), .ref (ad 7), .ref (ad 8), .ref (ad 9), .ref (ad 10), .ref (ad 11), .int S.2.2.2.2.2.2.2.2.2.2.2.2.2.2.2.2.2.2.2.1, .int S.2.2.2.2.2.2.2.2.2.2.2.2.2.2.2.2.2.2.2.2.1, .int S.2.2.2.2.2.2.2.2.2.2.2.2.2.2.2.2.2.2.2.2.2.1, .int S.2.2.2.2.2.2.2.2.2.2.2.2.2.2.2.2.2.2.2.2.2.2.1, .int S.2.2.2.2.2.2.2.2.2.2.2.2.2.2.2.2.2.2.2.2.2.2.2])), ((ad 1), .inl (kI, 61, .inl S.2.2.2.2.2.2.2.2.1)), ((ad 2), .inl (kI, 61, .inl S.2.2.2.2.2.2.2.2.2.1)), ((ad 3), .inl (kI, 61, .inl S.2.2.2.2.2.2.2.2.2.2.1)), ((ad 4), .inl (kI, 100, .inl S.2.2.2.2.2.2.2.2.2.2.2.1)), ((ad 5), .inl (kI, 100, .inl S.2.2.2.2.2.2.2.2.2.2.2.2.1)), ((ad 6), .inl (kZ, 100, .inl S.2.2.2.2.2.2.2.2.2.2.2.2.2.1)), ((ad 7), .inl (kI, 31, .inl S.2.2.2.2.2.2.2.2.2.2.2.2.2.2.1)), ((ad 8), .inl (kI, 31, .inl S.2.2.2.2.2.2.2.2.2.2.2.2.2.2.2.1)), ((ad 9), .inl (kI, 20, .inl S.2.2.2.2.2.2.2.2.2.2.2.2.2.2.2.2.1)), ((ad 10), .inl (kI, 10, .inl S.2.2.2.2.2.2.2.2.2.2.2.2.2.2.2.2.2.1)), ((ad 11), .inl (kI, 10, .inl S.2.2.2.2.2.2.2.2.2.2.2.2.2.2.2.2.2.2.1))] s.heap := hP
  have hl := lv_entry ([.ref (ad 0), .int x1]) (n := 2) (Nat.le_of_ble_eq_true rfl)
  rw [lg_entry_eq]
  generalize (lg_sl ([.ref (ad 0), .int x1]) ++ List.replicate (2 - (lg_sl ([.ref (ad 0), .int x1])).length) Slot.unset).toArray = ls at hl ⊢
  have hl : lv_has ls 2 [(0, .ref (ad 0)), (1, .int x1)] := hl
  refine lv_iload_n hx hb dMd_isException_0 rfl (lv_at hl 1 rfl) ?_
  refine lv_if_le (tgt := 16) hx hb dMd_isException_1 (by decide) (fun c_1 => ?_) (fun c_1 => ?_)
  · refine lv_iconst (v := 0) hx hb dMd_isException_16 (by decide) ?_
    exact W.zret (v := 0) hx hb hr rfl (fun t ht hW => ⟨⟨_, (), rfl, (show 0 = f_Model_isException S x1 from by unfold f_Model_isException; rw [if_pos c_1]), trivial⟩, hS.F ht⟩) hS.2.2 dMd_isException_17
  · refine lv_iload_n hx hb dMd_isException_4 rfl (lv_at hl 1 rfl) ?_
    refine lv_aload_n hx hb dMd_isException_5 rfl (lv_at hl 0 rfl) ?_
    refine va_get (D := (dC, dI)) (ci := 7) (v := .int S.2.1) (C := RMd) (T := TMd) (N := 24) hx hb hts (by decide +kernel) hown hK hP 0 rfl rfl 1 (by decide) (hts (.fieldLink RMd 48 "DeclarativeRowsModel" "exceptions" "I") (by decide +kernel)) (fun _ h9 => h9) rfl dMd_isException_6 ?_
    refine lv_icmp_gt (tgt := 16) hx hb dMd_isException_9 (by decide) (fun c_2 => ?_) (fun c_2 => ?_)
    · refine lv_iconst (v := 0) hx hb dMd_isException_16 (by decide) ?_
      exact W.zret (v := 0) hx hb hr rfl (fun t ht hW => ⟨⟨_, (), rfl, (show 0 = f_Model_isException S x1 from by unfold f_Model_isException; rw [if_neg c_1, if_pos c_2]), trivial⟩, hS.F ht⟩) hS.2.2 dMd_isException_17
    · refine lv_iconst (v := 1) hx hb dMd_isException_12 (by decide) ?_
      refine lv_goto (tgt := 17) hx hb dMd_isException_13 (by decide) ?_
      exact W.zret (v := 1) hx hb hr rfl (fun t ht hW => ⟨⟨_, (), rfl, (show 1 = f_Model_isException S x1 from by unfold f_Model_isException; rw [if_neg c_1, if_neg c_2]), trivial⟩, hS.F ht⟩) hS.2.2 dMd_isException_17
set_option maxHeartbeats 4000000 in
set_option maxRecDepth 100000 in
theorem m_Model_isFile (l : Launch) (dC : Nat → ClassId) (dI : Nat → Nat → Nat) (kI kZ : ClassId) (x0 : Int32) : Met l yMd_isFile wsMd_isFile ({ frames := 0, cells := 0, slots := 0, locals := 0 }) (r_Pc dC dI kI kZ [.int x0] []) (r_Qc (f_Model_isFile x0)) 0 0 (fun _ => False) := by
  refine Met.ofW (cc := cMd_isFile) (maxL := 1) (ret := (some .boolean)) (by decide) rfl ?_
  intro p e s m args below meth c s₁ B hml hv
  obtain ⟨rfl, hP, hX⟩ := hv
  have hK := hX.1
  have hx := B.exec
  have hb := B.bytes
  have hr := B.returns
  have hts := atoms_spec (ws := wsMd_isFile) B.pre
  have hown : s.vm.findClass RMd = some m.cls := findClass_of_methodNamed B.named
  have hlocks := B.notSynchronized
  have hS : va_S (fun _ => False) s.heap s.heap [] := va_S.rf
  have hP : va_P (dC, dI) vwCl [] s.heap := hP
  have hl := lv_entry ([.int x0]) (n := 1) (Nat.le_of_ble_eq_true rfl)
  rw [lg_entry_eq]
  generalize (lg_sl ([.int x0]) ++ List.replicate (1 - (lg_sl ([.int x0])).length) Slot.unset).toArray = ls at hl ⊢
  have hl : lv_has ls 1 [(0, .int x0)] := hl
  refine lv_iload_n hx hb dMd_isFile_0 rfl (lv_at hl 0 rfl) ?_
  refine lv_if_lt (tgt := 14) hx hb dMd_isFile_1 (by decide) (fun c_1 => ?_) (fun c_1 => ?_)
  · refine lv_iconst (v := 0) hx hb dMd_isFile_14 (by decide) ?_
    exact W.zret (v := 0) hx hb hr rfl (fun t ht hW => ⟨⟨_, (), rfl, (show 0 = f_Model_isFile x0 from by unfold f_Model_isFile; rw [if_pos c_1]), trivial⟩, hS.F ht⟩) hS.2.2 dMd_isFile_15
  · refine lv_iload_n hx hb dMd_isFile_4 rfl (lv_at hl 0 rfl) ?_
    refine lv_bipush (v := 20) hx hb dMd_isFile_5 (by decide) ?_
    refine lv_icmp_ge (tgt := 14) hx hb dMd_isFile_7 (by decide) (fun c_2 => ?_) (fun c_2 => ?_)
    · refine lv_iconst (v := 0) hx hb dMd_isFile_14 (by decide) ?_
      exact W.zret (v := 0) hx hb hr rfl (fun t ht hW => ⟨⟨_, (), rfl, (show 0 = f_Model_isFile x0 from by unfold f_Model_isFile; rw [if_neg c_1, if_pos c_2]), trivial⟩, hS.F ht⟩) hS.2.2 dMd_isFile_15
    · refine lv_iconst (v := 1) hx hb dMd_isFile_10 (by decide) ?_
      refine lv_goto (tgt := 15) hx hb dMd_isFile_11 (by decide) ?_
      exact W.zret (v := 1) hx hb hr rfl (fun t ht hW => ⟨⟨_, (), rfl, (show 1 = f_Model_isFile x0 from by unfold f_Model_isFile; rw [if_neg c_1, if_neg c_2]), trivial⟩, hS.F ht⟩) hS.2.2 dMd_isFile_15
set_option maxHeartbeats 4000000 in
set_option maxRecDepth 100000 in
theorem m_Model_isAt (l : Launch) (dC : Nat → ClassId) (dI : Nat → Nat → Nat) (kI kZ : ClassId) (ad : Nat → Nat) (S : S_Model) (x1 x2 : Int32) (hM : MI S) (j0 : Nat) (hj0 : x1 = nI j0) (hj60 : j0 ≤ 60) : Met l yMd_isAt wsMd_isAt ({ frames := 0, cells := 0, slots := 0, locals := 0 }) (r_Pc dC dI kI kZ [.ref (ad 0), .int x1, .int x2] (w_Model kI kZ ad S)) (r_Qc (f_Model_isAt S x1 x2)) 0 0 (fun _ => False) := by
  refine Met.ofW (cc := cMd_isAt) (maxL := 4) (ret := (some .boolean)) (by decide) rfl ?_
  intro p e s m args below meth c s₁ B hml hv
  obtain ⟨rfl, hP, hX⟩ := hv
  have hK := hX.1
  have hx := B.exec
  have hb := B.bytes
  have hr := B.returns
  have hts := atoms_spec (ws := wsMd_isAt) B.pre
  have hown : s.vm.findClass RMd = some m.cls := findClass_of_methodNamed B.named
  have hlocks := B.notSynchronized
  have hS : va_S (fun _ => False) s.heap s.heap [] := va_S.rf
  have hP : va_P (dC, dI) vwCl [((ad 0), .inr (7, [.int S.1, .int S.2.1, .int S.2.2.1, .int S.2.2.2.1, .int S.2.2.2.2.1, .int S.2.2.2.2.2.1, .int S.2.2.2.2.2.2.1, .int S.2.2.2.2.2.2.2.1, .ref (ad 1), .ref (ad 2), .ref (ad 3), .ref (ad 4), .ref (ad 5), .ref (ad 6), .ref (ad 7), .ref (ad 8), .ref (ad 9), .ref (ad 10), .ref (ad 11), .int S.2.2.2.2.2.2.2.2.2.2.2.2.2.2.2.2.2.2.2.1, .int S.2.2.2.2.2.2.2.2.2.2.2.2.2.2.2.2.2.2.2.2.1, .int S.2.2.2.2.2.2.2.2.2.2.2.2.2.2.2.2.2.2.2.2.2.1, .int S.2.2.2.2.2.2.2.2.2.2.2.2.2.2.2.2.2.2.2.2.2.2.1, .int S.2.2.2.2.2.2.2.2.2.2.2.2.2.2.2.2.2.2.2.2.2.2.2])), ((ad 1), .inl (kI, 61, .inl S.2.2.2.2.2.2.2.2.1)), ((ad 2), .inl (kI, 61, .inl S.2.2.2.2.2.2.2.2.2.1)), ((ad 3), .inl (kI, 61, .inl S.2.2.2.2.2.2.2.2.2.2.1)), ((ad 4), .inl (kI, 100, .inl S.2.2.2.2.2.2.2.2.2.2.2.1)), ((ad 5), .inl (kI, 100, .inl S.2.2.2.2.2.2.2.2.2.2.2.2.1)), ((ad 6), .inl (kZ, 100, .inl S.2.2.2.2.2.2.2.2.2.2.2.2.2.1)), ((ad 7), .inl (kI, 31, .inl S.2.2.2.2.2.2.2.2.2.2.2.2.2.2.1)), ((ad 8), .inl (kI, 31, .inl S.2.2.2.2.2.2.2.2.2.2.2.2.2.2.2.1)), ((ad 9), .inl (kI, 20, .inl S.2.2.2.2.2.2.2.2.2.2.2.2.2.2.2.2.1)), ((ad 10), .inl (kI, 10, .inl S.2.2.2.2.2.2.2.2.2.2.2.2.2.2.2.2.2.1)), ((ad 11), .inl (kI, 10, .inl S.2.2.2.2.2.2.2.2.2.2.2.2.2.2.2.2.2.2.1))] s.heap := hP
  have hl := lv_entry ([.ref (ad 0), .int x1, .int x2]) (n := 4) (Nat.le_of_ble_eq_true rfl)
  rw [lg_entry_eq]
  generalize (lg_sl ([.ref (ad 0), .int x1, .int x2]) ++ List.replicate (4 - (lg_sl ([.ref (ad 0), .int x1, .int x2])).length) Slot.unset).toArray = ls at hl ⊢
  have hl : lv_has ls 4 [(0, .ref (ad 0)), (1, .int x1), (2, .int x2)] := hl
  obtain ⟨nE, nC, nU, nR, hE, hE60, hC, hC100, hU, hU30, hR, hR10, hab, hons, hend⟩ := id hM
  refine lv_iload_n hx hb dMd_isAt_0 rfl (lv_at hl 1 rfl) ?_
  refine lv_istore_n (lv' := [(3, .int x1), (0, .ref (ad 0)), (1, .int x1), (2, .int x2)]) hx hb dMd_isAt_1 rfl hl (by decide) rfl (fun ls hl => ?_)
  refine (?_ : ∀ (k j : Nat) (x3 : Int32) (ls : Array Slot) (H : Heap) (locs : List Loc), lv_has ls 4 [(0, .ref (ad 0)), (1, .int x1), (2, .int x2), (3, .int x3)] → va_P (dC, dI) vwCl [((ad 0), .inr (7, [.int S.1, .int S.2.1, .int S.2.2.1, .int S.2.2.2.1, .int S.2.2.2.2.1, .int S.2.2.2.2.2.1, .int S.2.2.2.2.2.2.1, .int S.2.2.2.2.2.2.2.1, .ref (ad 1), .ref (ad 2), .ref (ad 3), .ref (ad 4), .ref (ad 5), .ref (ad 6), .ref (ad 7), .ref (ad 8), .ref (ad 9), .ref (ad 10), .ref (ad 11), .int S.2.2.2.2.2.2.2.2.2.2.2.2.2.2.2.2.2.2.2.1, .int S.2.2.2.2.2.2.2.2.2.2.2.2.2.2.2.2.2.2.2.2.1, .int S.2.2.2.2.2.2.2.2.2.2.2.2.2.2.2.2.2.2.2.2.2.1, .int S.2.2.2.2.2.2.2.2.2.2.2.2.2.2.2.2.2.2.2.2.2.2.1, .int S.2.2.2.2.2.2.2.2.2.2.2.2.2.2.2.2.2.2.2.2.2.2.2])), ((ad 1), .inl (kI, 61, .inl S.2.2.2.2.2.2.2.2.1)), ((ad 2), .inl (kI, 61, .inl S.2.2.2.2.2.2.2.2.2.1)), ((ad 3), .inl (kI, 61, .inl S.2.2.2.2.2.2.2.2.2.2.1)), ((ad 4), .inl (kI, 100, .inl S.2.2.2.2.2.2.2.2.2.2.2.1)), ((ad 5), .inl (kI, 100, .inl S.2.2.2.2.2.2.2.2.2.2.2.2.1)), ((ad 6), .inl (kZ, 100, .inl S.2.2.2.2.2.2.2.2.2.2.2.2.2.1)), ((ad 7), .inl (kI, 31, .inl S.2.2.2.2.2.2.2.2.2.2.2.2.2.2.1)), ((ad 8), .inl (kI, 31, .inl S.2.2.2.2.2.2.2.2.2.2.2.2.2.2.2.1)), ((ad 9), .inl (kI, 20, .inl S.2.2.2.2.2.2.2.2.2.2.2.2.2.2.2.2.1)), ((ad 10), .inl (kI, 10, .inl S.2.2.2.2.2.2.2.2.2.2.2.2.2.2.2.2.2.1)), ((ad 11), .inl (kI, 10, .inl S.2.2.2.2.2.2.2.2.2.2.2.2.2.2.2.2.2.2.1))] H → va_S (fun _ => False) s.heap H locs → x3 = nI j → j ≤ 60 → j < k → f_Model_isAt S x1 x2 = f_Model_isAt_L2 S x1 x2 k x3 → W p l e _ s m _ below meth c H locs _ _ _ (F0 m 2 ls [])) 61 j0 x1 ls _ _ (lv_sub hl [1, 2, 3, 0] rfl) hP hS (hj0) (by omega) (by omega) (rfl)
  intro k2
  induction k2 with
  | zero => intro j2 x3 ls H locs hl hP hS hj2 hjN2 hk2 hI2; exfalso; omega
  | succ k2 ih2 =>
    intro j2 x3 ls H locs hl hP hS hj2 hjN2 hk2 hI2
    refine lv_iload_n hx hb dMd_isAt_2 rfl (lv_at hl 3 rfl) ?_
    refine lv_if_eq (tgt := 21) hx hb dMd_isAt_3 (by decide) (fun c_1 => ?_) (fun c_1 => ?_)
    · refine lv_iload_n hx hb dMd_isAt_21 rfl (lv_at hl 3 rfl) ?_
      refine lv_iload_n hx hb dMd_isAt_22 rfl (lv_at hl 2 rfl) ?_
      refine lv_icmp_ne (tgt := 30) hx hb dMd_isAt_23 (by decide) (fun c_2 => ?_) (fun c_2 => ?_)
      · refine lv_iconst (v := 0) hx hb dMd_isAt_30 (by decide) ?_
        exact W.zret (v := 0) hx hb hr rfl (fun t ht hW => ⟨⟨_, (), rfl, (show 0 = f_Model_isAt S x1 x2 from by rw [hI2, f_Model_isAt_L2, if_pos c_1, if_neg c_2]), trivial⟩, hS.F ht⟩) hS.2.2 dMd_isAt_31
      · refine lv_iconst (v := 1) hx hb dMd_isAt_26 (by decide) ?_
        refine lv_goto (tgt := 31) hx hb dMd_isAt_27 (by decide) ?_
        exact W.zret (v := 1) hx hb hr rfl (fun t ht hW => ⟨⟨_, (), rfl, (show 1 = f_Model_isAt S x1 x2 from by rw [hI2, f_Model_isAt_L2, if_pos c_1, if_pos c_2]), trivial⟩, hS.F ht⟩) hS.2.2 dMd_isAt_31
    · refine lv_iload_n hx hb dMd_isAt_6 rfl (lv_at hl 3 rfl) ?_
      refine lv_iload_n hx hb dMd_isAt_7 rfl (lv_at hl 2 rfl) ?_
      refine lv_icmp_eq (tgt := 21) hx hb dMd_isAt_8 (by decide) (fun c_3 => ?_) (fun c_3 => ?_)
      · refine lv_iload_n hx hb dMd_isAt_21 rfl (lv_at hl 3 rfl) ?_
        refine lv_iload_n hx hb dMd_isAt_22 rfl (lv_at hl 2 rfl) ?_
        refine lv_icmp_ne (tgt := 30) hx hb dMd_isAt_23 (by decide) (fun c_4 => ?_) (fun c_4 => ?_)
        · exact absurd c_3 c_4
        · refine lv_iconst (v := 1) hx hb dMd_isAt_26 (by decide) ?_
          refine lv_goto (tgt := 31) hx hb dMd_isAt_27 (by decide) ?_
          exact W.zret (v := 1) hx hb hr rfl (fun t ht hW => ⟨⟨_, (), rfl, (show 1 = f_Model_isAt S x1 x2 from by rw [hI2, f_Model_isAt_L2, if_neg c_1, if_pos c_3]), trivial⟩, hS.F ht⟩) hS.2.2 dMd_isAt_31
      · obtain ⟨jn, hjn, hjn2⟩ := hab j2 (jpos hj2 c_1) (by omega)
        refine lv_aload_n hx hb dMd_isAt_11 rfl (lv_at hl 0 rfl) ?_
        refine va_get (D := (dC, dI)) (ci := 7) (v := .ref (ad 3)) (C := RMd) (T := TMd) (N := 24) hx hb hts (by decide +kernel) hown hK hP 0 rfl rfl 10 (by decide) (hts (.fieldLink RMd 16 "DeclarativeRowsModel" "aboves" "[I") (by decide +kernel)) (fun _ h9 => h9) rfl dMd_isAt_12 ?_
        refine lv_iload_n hx hb dMd_isAt_15 rfl (lv_at hl 3 rfl) ?_
        refine va_iald hx hb hK hP 3 0 rfl rfl (i := x3) (in_nI hj2 (by omega) (by decide)) dMd_isAt_16 ?_
        refine lv_istore_n (lv' := [(3, .int (S.2.2.2.2.2.2.2.2.2.2.1 x3.toNatClampNeg)), (0, .ref (ad 0)), (1, .int x1), (2, .int x2)]) hx hb dMd_isAt_17 rfl hl (by decide) rfl (fun ls hl => ?_)
        refine lv_goto (tgt := 2) hx hb dMd_isAt_18 (by decide) ?_
        exact ih2 (jn) (S.2.2.2.2.2.2.2.2.2.2.1 x3.toNatClampNeg) ls _ _ (lv_sub hl [1, 2, 3, 0] rfl) hP hS (by rw [hj2, nI_clamp (by omega)]; exact hjn2) (by omega) (by omega) (by rw [hI2, f_Model_isAt_L2, if_neg c_1, if_neg c_3])
set_option maxHeartbeats 4000000 in
set_option maxRecDepth 100000 in
theorem m_Model_isChecked (l : Launch) (dC : Nat → ClassId) (dI : Nat → Nat → Nat) (kI kZ : ClassId) (ad : Nat → Nat) (S : S_Model) (x1 x2 : Int32) (hM : MI S) (j0 : Nat) (hj0 : x1 = nI j0) (hj60 : j0 ≤ 60) : Met l yMd_isChecked wsMd_isChecked ({ frames := 1, cells := 0, slots := 0, locals := 23 }) (r_Pc dC dI kI kZ [.ref (ad 0), .int x1, .int x2] (w_Model kI kZ ad S)) (r_Qc (f_Model_isChecked S x1 x2)) 0 0 (fun _ => False) := by
  refine Met.ofW (cc := cMd_isChecked) (maxL := 6) (ret := (some .boolean)) (by decide) rfl ?_
  intro p e s m args below meth c s₁ B hml hv
  obtain ⟨rfl, hP, hX⟩ := hv
  have hK := hX.1
  have hx := B.exec
  have hb := B.bytes
  have hr := B.returns
  have hts := atoms_spec (ws := wsMd_isChecked) B.pre
  have hown : s.vm.findClass RMd = some m.cls := findClass_of_methodNamed B.named
  have hlocks := B.notSynchronized
  have hS : va_S (fun _ => False) s.heap s.heap [] := va_S.rf
  have hP : va_P (dC, dI) vwCl [((ad 0), .inr (7, [.int S.1, .int S.2.1, .int S.2.2.1, .int S.2.2.2.1, .int S.2.2.2.2.1, .int S.2.2.2.2.2.1, .int S.2.2.2.2.2.2.1, .int S.2.2.2.2.2.2.2.1, .ref (ad 1), .ref (ad 2), .ref (ad 3), .ref (ad 4), .ref (ad 5), .ref (ad 6), .ref (ad 7), .ref (ad 8), .ref (ad 9), .ref (ad 10), .ref (ad 11), .int S.2.2.2.2.2.2.2.2.2.2.2.2.2.2.2.2.2.2.2.1, .int S.2.2.2.2.2.2.2.2.2.2.2.2.2.2.2.2.2.2.2.2.1, .int S.2.2.2.2.2.2.2.2.2.2.2.2.2.2.2.2.2.2.2.2.2.1, .int S.2.2.2.2.2.2.2.2.2.2.2.2.2.2.2.2.2.2.2.2.2.2.1, .int S.2.2.2.2.2.2.2.2.2.2.2.2.2.2.2.2.2.2.2.2.2.2.2])), ((ad 1), .inl (kI, 61, .inl S.2.2.2.2.2.2.2.2.1)), ((ad 2), .inl (kI, 61, .inl S.2.2.2.2.2.2.2.2.2.1)), ((ad 3), .inl (kI, 61, .inl S.2.2.2.2.2.2.2.2.2.2.1)), ((ad 4), .inl (kI, 100, .inl S.2.2.2.2.2.2.2.2.2.2.2.1)), ((ad 5), .inl (kI, 100, .inl S.2.2.2.2.2.2.2.2.2.2.2.2.1)), ((ad 6), .inl (kZ, 100, .inl S.2.2.2.2.2.2.2.2.2.2.2.2.2.1)), ((ad 7), .inl (kI, 31, .inl S.2.2.2.2.2.2.2.2.2.2.2.2.2.2.1)), ((ad 8), .inl (kI, 31, .inl S.2.2.2.2.2.2.2.2.2.2.2.2.2.2.2.1)), ((ad 9), .inl (kI, 20, .inl S.2.2.2.2.2.2.2.2.2.2.2.2.2.2.2.2.1)), ((ad 10), .inl (kI, 10, .inl S.2.2.2.2.2.2.2.2.2.2.2.2.2.2.2.2.2.1)), ((ad 11), .inl (kI, 10, .inl S.2.2.2.2.2.2.2.2.2.2.2.2.2.2.2.2.2.2.1))] s.heap := hP
  have hl := lv_entry ([.ref (ad 0), .int x1, .int x2]) (n := 6) (Nat.le_of_ble_eq_true rfl)
  rw [lg_entry_eq]
  generalize (lg_sl ([.ref (ad 0), .int x1, .int x2]) ++ List.replicate (6 - (lg_sl ([.ref (ad 0), .int x1, .int x2])).length) Slot.unset).toArray = ls at hl ⊢
  have hl : lv_has ls 6 [(0, .ref (ad 0)), (1, .int x1), (2, .int x2)] := hl
  obtain ⟨nE, nC, nU, nR, hE, hE60, hC, hC100, hU, hU30, hR, hR10, hab, hons, hend⟩ := id hM
  refine lv_iconst (v := -1) hx hb dMd_isChecked_0 (by decide) ?_
  refine lv_istore_n (lv' := [(3, .int (-1)), (0, .ref (ad 0)), (1, .int x1), (2, .int x2)]) hx hb dMd_isChecked_1 rfl hl (by decide) rfl (fun ls hl => ?_)
  refine lv_iconst (v := 0) hx hb dMd_isChecked_2 (by decide) ?_
  refine lv_istore (lv' := [(4, .int 0), (3, .int (-1)), (0, .ref (ad 0)), (1, .int x1), (2, .int x2)]) hx hb dMd_isChecked_3 hl (by decide) rfl (fun ls hl => ?_)
  refine lv_iconst (v := 0) hx hb dMd_isChecked_5 (by decide) ?_
  refine lv_istore (lv' := [(5, .int 0), (4, .int 0), (3, .int (-1)), (0, .ref (ad 0)), (1, .int x1), (2, .int x2)]) hx hb dMd_isChecked_6 hl (by decide) rfl (fun ls hl => ?_)
  refine (?_ : ∀ (k j : Nat) (x3 : Int32) (x4 : Int32) (x5 : Int32) (ls : Array Slot) (H : Heap) (locs : List Loc), lv_has ls 6 [(0, .ref (ad 0)), (1, .int x1), (2, .int x2), (3, .int x3), (4, .int x4), (5, .int x5)] → va_P (dC, dI) vwCl [((ad 0), .inr (7, [.int S.1, .int S.2.1, .int S.2.2.1, .int S.2.2.2.1, .int S.2.2.2.2.1, .int S.2.2.2.2.2.1, .int S.2.2.2.2.2.2.1, .int S.2.2.2.2.2.2.2.1, .ref (ad 1), .ref (ad 2), .ref (ad 3), .ref (ad 4), .ref (ad 5), .ref (ad 6), .ref (ad 7), .ref (ad 8), .ref (ad 9), .ref (ad 10), .ref (ad 11), .int S.2.2.2.2.2.2.2.2.2.2.2.2.2.2.2.2.2.2.2.1, .int S.2.2.2.2.2.2.2.2.2.2.2.2.2.2.2.2.2.2.2.2.1, .int S.2.2.2.2.2.2.2.2.2.2.2.2.2.2.2.2.2.2.2.2.2.1, .int S.2.2.2.2.2.2.2.2.2.2.2.2.2.2.2.2.2.2.2.2.2.2.1, .int S.2.2.2.2.2.2.2.2.2.2.2.2.2.2.2.2.2.2.2.2.2.2.2])), ((ad 1), .inl (kI, 61, .inl S.2.2.2.2.2.2.2.2.1)), ((ad 2), .inl (kI, 61, .inl S.2.2.2.2.2.2.2.2.2.1)), ((ad 3), .inl (kI, 61, .inl S.2.2.2.2.2.2.2.2.2.2.1)), ((ad 4), .inl (kI, 100, .inl S.2.2.2.2.2.2.2.2.2.2.2.1)), ((ad 5), .inl (kI, 100, .inl S.2.2.2.2.2.2.2.2.2.2.2.2.1)), ((ad 6), .inl (kZ, 100, .inl S.2.2.2.2.2.2.2.2.2.2.2.2.2.1)), ((ad 7), .inl (kI, 31, .inl S.2.2.2.2.2.2.2.2.2.2.2.2.2.2.1)), ((ad 8), .inl (kI, 31, .inl S.2.2.2.2.2.2.2.2.2.2.2.2.2.2.2.1)), ((ad 9), .inl (kI, 20, .inl S.2.2.2.2.2.2.2.2.2.2.2.2.2.2.2.2.1)), ((ad 10), .inl (kI, 10, .inl S.2.2.2.2.2.2.2.2.2.2.2.2.2.2.2.2.2.1)), ((ad 11), .inl (kI, 10, .inl S.2.2.2.2.2.2.2.2.2.2.2.2.2.2.2.2.2.2.1))] H → va_S (fun _ => False) s.heap H locs → x5 = nI j → j ≤ 100 → 100 < j + k → f_Model_isChecked S x1 x2 = f_Model_isChecked_L8 S x1 x2 k x3 x4 x5 → (x4 = 0 ∨ x4 = 1) → W p l e _ s m _ below meth c H locs _ _ _ (F0 m 8 ls [])) 101 0 (-1) 0 0 ls _ _ (lv_sub hl [3, 4, 5, 2, 1, 0] rfl) hP hS (nI_0.symm) (by omega) (by omega) (rfl) (Or.inl rfl)
  intro k8
  induction k8 with
  | zero => intro j8 x3 x4 x5 ls H locs hl hP hS hj8 hjN8 hk8 hI8 hv0; exfalso; omega
  | succ k8 ih8 =>
    intro j8 x3 x4 x5 ls H locs hl hP hS hj8 hjN8 hk8 hI8 hv0
    refine lv_iload hx hb dMd_isChecked_8 (lv_at hl 5 rfl) ?_
    refine lv_aload_n hx hb dMd_isChecked_10 rfl (lv_at hl 0 rfl) ?_
    refine va_get (D := (dC, dI)) (ci := 7) (v := .int S.2.2.1) (C := RMd) (T := TMd) (N := 24) hx hb hts (by decide +kernel) hown hK hP 0 rfl rfl 2 (by decide) (hts (.fieldLink RMd 61 "DeclarativeRowsModel" "checks" "I") (by decide +kernel)) (fun _ h9 => h9) rfl dMd_isChecked_11 ?_
    refine lv_icmp_ge (tgt := 80) hx hb dMd_isChecked_14 (by decide) (fun c_1 => ?_) (fun c_1 => ?_)
    · refine lv_iload hx hb dMd_isChecked_80 (lv_at hl 4 rfl) ?_
      exact W.zret (v := x4) hx hb hr (nar_b hv0) (fun t ht hW => ⟨⟨_, (), rfl, (show x4 = f_Model_isChecked S x1 x2 from by rw [hI8, f_Model_isChecked_L8, if_pos c_1]), trivial⟩, hS.F ht⟩) hS.2.2 dMd_isChecked_82
    · have hjl : j8 < nC := jlt hC hj8 (by omega) (by omega) c_1
      have hin := in_nI (N := 100) hj8 (by omega) (by decide)
      refine lv_aload_n hx hb dMd_isChecked_17 rfl (lv_at hl 0 rfl) ?_
      refine va_get (D := (dC, dI)) (ci := 7) (v := .ref (ad 5)) (C := RMd) (T := TMd) (N := 24) hx hb hts (by decide +kernel) hown hK hP 0 rfl rfl 12 (by decide) (hts (.fieldLink RMd 22 "DeclarativeRowsModel" "froms" "[I") (by decide +kernel)) (fun _ h9 => h9) rfl dMd_isChecked_18 ?_
      refine lv_iload hx hb dMd_isChecked_21 (lv_at hl 5 rfl) ?_
      refine va_iald hx hb hK hP 5 0 rfl rfl (i := x5) (hin) dMd_isChecked_23 ?_
      refine lv_iload_n hx hb dMd_isChecked_24 rfl (lv_at hl 2 rfl) ?_
      refine lv_icmp_gt (tgt := 74) hx hb dMd_isChecked_25 (by decide) (fun c_2 => ?_) (fun c_2 => ?_)
      · refine lv_iinc (v := (x5 + 1)) (lv' := [(5, .int (x5 + 1)), (0, .ref (ad 0)), (1, .int x1), (2, .int x2), (3, .int x3), (4, .int x4)]) hx hb dMd_isChecked_74 hl (k := 5) rfl rfl (by decide) rfl (fun ls hl => ?_)
        refine lv_goto (tgt := 8) hx hb dMd_isChecked_77 (by decide) ?_
        exact ih8 (j8 + 1) x3 x4 (x5 + 1) ls _ _ (lv_sub hl [1, 2, 3, 4, 5, 0] rfl) hP hS (by rw [hj8]; exact nI_1 j8) (by omega) (by omega) (by rw [hI8, f_Model_isChecked_L8, if_neg c_1, if_pos c_2]) (by first | exact hv0 | exact hons _)
      · refine lv_aload_n hx hb dMd_isChecked_28 rfl (lv_at hl 0 rfl) ?_
        refine va_get (D := (dC, dI)) (ci := 7) (v := .ref (ad 5)) (C := RMd) (T := TMd) (N := 24) hx hb hts (by decide +kernel) hown hK hP 0 rfl rfl 12 (by decide) (hts (.fieldLink RMd 22 "DeclarativeRowsModel" "froms" "[I") (by decide +kernel)) (fun _ h9 => h9) rfl dMd_isChecked_29 ?_
        refine lv_iload hx hb dMd_isChecked_32 (lv_at hl 5 rfl) ?_
        refine va_iald hx hb hK hP 5 0 rfl rfl (i := x5) (hin) dMd_isChecked_34 ?_
        refine lv_iload_n hx hb dMd_isChecked_35 rfl (lv_at hl 3 rfl) ?_
        refine lv_icmp_lt (tgt := 74) hx hb dMd_isChecked_36 (by decide) (fun c_3 => ?_) (fun c_3 => ?_)
        · refine lv_iinc (v := (x5 + 1)) (lv' := [(5, .int (x5 + 1)), (0, .ref (ad 0)), (1, .int x1), (2, .int x2), (3, .int x3), (4, .int x4)]) hx hb dMd_isChecked_74 hl (k := 5) rfl rfl (by decide) rfl (fun ls hl => ?_)
          refine lv_goto (tgt := 8) hx hb dMd_isChecked_77 (by decide) ?_
          exact ih8 (j8 + 1) x3 x4 (x5 + 1) ls _ _ (lv_sub hl [1, 2, 3, 4, 5, 0] rfl) hP hS (by rw [hj8]; exact nI_1 j8) (by omega) (by omega) (by rw [hI8, f_Model_isChecked_L8, if_neg c_1, if_neg c_2, if_pos c_3]) (by first | exact hv0 | exact hons _)
        · refine lv_aload_n hx hb dMd_isChecked_39 rfl (lv_at hl 0 rfl) ?_
          refine lv_iload_n hx hb dMd_isChecked_40 rfl (lv_at hl 1 rfl) ?_
          refine lv_aload_n hx hb dMd_isChecked_41 rfl (lv_at hl 0 rfl) ?_
          refine va_get (D := (dC, dI)) (ci := 7) (v := .ref (ad 4)) (C := RMd) (T := TMd) (N := 24) hx hb hts (by decide +kernel) hown hK hP 0 rfl rfl 11 (by decide) (hts (.fieldLink RMd 19 "DeclarativeRowsModel" "checked" "[I") (by decide +kernel)) (fun _ h9 => h9) rfl dMd_isChecked_42 ?_
          refine lv_iload hx hb dMd_isChecked_45 (lv_at hl 5 rfl) ?_
          refine va_iald hx hb hK hP 4 0 rfl rfl (i := x5) (hin) dMd_isChecked_47 ?_
          refine xx_callR (dC := dC) (dI := dI) (va_runV (As := [.int x1, .int (S.2.2.2.2.2.2.2.2.2.2.2.1 x5.toNatClampNeg)]) (rest := []) ⟨hx, hb, hml, hown, hts⟩ (m_Model_isAt l dC dI kI kZ ad S x1 (S.2.2.2.2.2.2.2.2.2.2.2.1 x5.toNatClampNeg) hM j0 hj0 hj60) (cwV 2 hts gMd_isChecked_Md_isAt rfl rfl rfl (by decide +kernel) ⟨Nat.le_of_ble_eq_true rfl, Nat.le_of_ble_eq_true rfl⟩) (xx_preR hX (hP.sub (ws' := (w_Model kI kZ ad S)) [0, 1, 2, 3, 4, 5, 6, 7, 8, 9, 10, 11] rfl) (ci := 7) (q0 := 0) rfl rfl) rfl rfl hl.1 rfl (lv_room (Nat.le_of_ble_eq_true rfl)) dMd_isChecked_48 ⟨Nat.le_of_ble_eq_true rfl, Nat.le_of_ble_eq_true rfl⟩) hS (fun H locs kp hS => ?_)
          have hP := kp _ hP
          refine lv_if_ne (tgt := 57) hx hb dMd_isChecked_51 (by decide) (fun c_4 => ?_) (fun c_4 => ?_)
          · refine lv_aload_n hx hb dMd_isChecked_57 rfl (lv_at hl 0 rfl) ?_
            refine va_get (D := (dC, dI)) (ci := 7) (v := .ref (ad 5)) (C := RMd) (T := TMd) (N := 24) hx hb hts (by decide +kernel) hown hK hP 0 rfl rfl 12 (by decide) (hts (.fieldLink RMd 22 "DeclarativeRowsModel" "froms" "[I") (by decide +kernel)) (fun _ h9 => h9) rfl dMd_isChecked_58 ?_
            refine lv_iload hx hb dMd_isChecked_61 (lv_at hl 5 rfl) ?_
            refine va_iald hx hb hK hP 5 0 rfl rfl (i := x5) (hin) dMd_isChecked_63 ?_
            refine lv_istore_n (lv' := [(3, .int (S.2.2.2.2.2.2.2.2.2.2.2.2.1 x5.toNatClampNeg)), (0, .ref (ad 0)), (1, .int x1), (2, .int x2), (4, .int x4), (5, .int x5)]) hx hb dMd_isChecked_64 rfl hl (by decide) rfl (fun ls hl => ?_)
            refine lv_aload_n hx hb dMd_isChecked_65 rfl (lv_at hl 1 rfl) ?_
            refine va_get (D := (dC, dI)) (ci := 7) (v := .ref (ad 6)) (C := RMd) (T := TMd) (N := 24) hx hb hts (by decide +kernel) hown hK hP 0 rfl rfl 13 (by decide) (hts (.fieldLink RMd 25 "DeclarativeRowsModel" "ons" "[Z") (by decide +kernel)) (fun _ h9 => h9) rfl dMd_isChecked_66 ?_
            refine lv_iload hx hb dMd_isChecked_69 (lv_at hl 5 rfl) ?_
            refine va_zald hx hb hK hP 6 1 rfl rfl (i := x5) (hin) dMd_isChecked_71 ?_
            refine lv_istore (lv' := [(4, .int (S.2.2.2.2.2.2.2.2.2.2.2.2.2.1 x5.toNatClampNeg)), (3, .int (S.2.2.2.2.2.2.2.2.2.2.2.2.1 x5.toNatClampNeg)), (0, .ref (ad 0)), (1, .int x1), (2, .int x2), (5, .int x5)]) hx hb dMd_isChecked_72 hl (by decide) rfl (fun ls hl => ?_)
            refine lv_iinc (v := (x5 + 1)) (lv' := [(5, .int (x5 + 1)), (4, .int (S.2.2.2.2.2.2.2.2.2.2.2.2.2.1 x5.toNatClampNeg)), (3, .int (S.2.2.2.2.2.2.2.2.2.2.2.2.1 x5.toNatClampNeg)), (0, .ref (ad 0)), (1, .int x1), (2, .int x2)]) hx hb dMd_isChecked_74 hl (k := 5) rfl rfl (by decide) rfl (fun ls hl => ?_)
            refine lv_goto (tgt := 8) hx hb dMd_isChecked_77 (by decide) ?_
            exact ih8 (j8 + 1) (S.2.2.2.2.2.2.2.2.2.2.2.2.1 x5.toNatClampNeg) (S.2.2.2.2.2.2.2.2.2.2.2.2.2.1 x5.toNatClampNeg) (x5 + 1) ls _ _ (lv_sub hl [3, 4, 5, 2, 1, 0] rfl) hP hS (by rw [hj8]; exact nI_1 j8) (by omega) (by omega) (by rw [hI8, f_Model_isChecked_L8, if_neg c_1, if_neg c_2, if_neg c_3, if_neg c_4]) (by first | exact hv0 | exact hons _)
          · refine lv_goto (tgt := 74) hx hb dMd_isChecked_54 (by decide) ?_
            refine lv_iinc (v := (x5 + 1)) (lv' := [(5, .int (x5 + 1)), (0, .ref (ad 0)), (1, .int x1), (2, .int x2), (3, .int x3), (4, .int x4)]) hx hb dMd_isChecked_74 hl (k := 5) rfl rfl (by decide) rfl (fun ls hl => ?_)
            refine lv_goto (tgt := 8) hx hb dMd_isChecked_77 (by decide) ?_
            exact ih8 (j8 + 1) x3 x4 (x5 + 1) ls _ _ (lv_sub hl [1, 2, 3, 4, 5, 0] rfl) hP hS (by rw [hj8]; exact nI_1 j8) (by omega) (by omega) (by rw [hI8, f_Model_isChecked_L8, if_neg c_1, if_neg c_2, if_neg c_3, if_pos c_4]) (by first | exact hv0 | exact hons _)
set_option maxHeartbeats 4000000 in
set_option maxRecDepth 100000 in
theorem m_Model_first (l : Launch) (dC : Nat → ClassId) (dI : Nat → Nat → Nat) (kI kZ : ClassId) (ad : Nat → Nat) (S : S_Model) (x1 x2 : Int32) (hM : MI S) : Met l yMd_first wsMd_first ({ frames := 0, cells := 0, slots := 0, locals := 0 }) (r_Pc dC dI kI kZ [.ref (ad 0), .int x1, .int x2] (w_Model kI kZ ad S)) (r_Qc (f_Model_first S x1 x2)) 0 0 (fun _ => False) := by
  refine Met.ofW (cc := cMd_first) (maxL := 5) (ret := (some .int)) (by decide) rfl ?_
  intro p e s m args below meth c s₁ B hml hv
  obtain ⟨rfl, hP, hX⟩ := hv
  have hK := hX.1
  have hx := B.exec
  have hb := B.bytes
  have hr := B.returns
  have hts := atoms_spec (ws := wsMd_first) B.pre
  have hown : s.vm.findClass RMd = some m.cls := findClass_of_methodNamed B.named
  have hlocks := B.notSynchronized
  have hS : va_S (fun _ => False) s.heap s.heap [] := va_S.rf
  have hP : va_P (dC, dI) vwCl [((ad 0), .inr (7, [.int S.1, .int S.2.1, .int S.2.2.1, .int S.2.2.2.1, .int S.2.2.2.2.1, .int S.2.2.2.2.2.1, .int S.2.2.2.2.2.2.1, .int S.2.2.2.2.2.2.2.1, .ref (ad 1), .ref (ad 2), .ref (ad 3), .ref (ad 4), .ref (ad 5), .ref (ad 6), .ref (ad 7), .ref (ad 8), .ref (ad 9), .ref (ad 10), .ref (ad 11), .int S.2.2.2.2.2.2.2.2.2.2.2.2.2.2.2.2.2.2.2.1, .int S.2.2.2.2.2.2.2.2.2.2.2.2.2.2.2.2.2.2.2.2.1, .int S.2.2.2.2.2.2.2.2.2.2.2.2.2.2.2.2.2.2.2.2.2.1, .int S.2.2.2.2.2.2.2.2.2.2.2.2.2.2.2.2.2.2.2.2.2.2.1, .int S.2.2.2.2.2.2.2.2.2.2.2.2.2.2.2.2.2.2.2.2.2.2.2])), ((ad 1), .inl (kI, 61, .inl S.2.2.2.2.2.2.2.2.1)), ((ad 2), .inl (kI, 61, .inl S.2.2.2.2.2.2.2.2.2.1)), ((ad 3), .inl (kI, 61, .inl S.2.2.2.2.2.2.2.2.2.2.1)), ((ad 4), .inl (kI, 100, .inl S.2.2.2.2.2.2.2.2.2.2.2.1)), ((ad 5), .inl (kI, 100, .inl S.2.2.2.2.2.2.2.2.2.2.2.2.1)), ((ad 6), .inl (kZ, 100, .inl S.2.2.2.2.2.2.2.2.2.2.2.2.2.1)), ((ad 7), .inl (kI, 31, .inl S.2.2.2.2.2.2.2.2.2.2.2.2.2.2.1)), ((ad 8), .inl (kI, 31, .inl S.2.2.2.2.2.2.2.2.2.2.2.2.2.2.2.1)), ((ad 9), .inl (kI, 20, .inl S.2.2.2.2.2.2.2.2.2.2.2.2.2.2.2.2.1)), ((ad 10), .inl (kI, 10, .inl S.2.2.2.2.2.2.2.2.2.2.2.2.2.2.2.2.2.1)), ((ad 11), .inl (kI, 10, .inl S.2.2.2.2.2.2.2.2.2.2.2.2.2.2.2.2.2.2.1))] s.heap := hP
  have hl := lv_entry ([.ref (ad 0), .int x1, .int x2]) (n := 5) (Nat.le_of_ble_eq_true rfl)
  rw [lg_entry_eq]
  generalize (lg_sl ([.ref (ad 0), .int x1, .int x2]) ++ List.replicate (5 - (lg_sl ([.ref (ad 0), .int x1, .int x2])).length) Slot.unset).toArray = ls at hl ⊢
  have hl : lv_has ls 5 [(0, .ref (ad 0)), (1, .int x1), (2, .int x2)] := hl
  obtain ⟨nE, nC, nU, nR, hE, hE60, hC, hC100, hU, hU30, hR, hR10, hab, hons, hend⟩ := id hM
  refine lv_iconst (v := 0) hx hb dMd_first_0 (by decide) ?_
  refine lv_istore_n (lv' := [(3, .int 0), (0, .ref (ad 0)), (1, .int x1), (2, .int x2)]) hx hb dMd_first_1 rfl hl (by decide) rfl (fun ls hl => ?_)
  refine lv_aload_n hx hb dMd_first_2 rfl (lv_at hl 1 rfl) ?_
  refine va_get (D := (dC, dI)) (ci := 7) (v := .int S.2.2.2.1) (C := RMd) (T := TMd) (N := 24) hx hb hts (by decide +kernel) hown hK hP 0 rfl rfl 3 (by decide) (hts (.fieldLink RMd 58 "DeclarativeRowsModel" "uses" "I") (by decide +kernel)) (fun _ h9 => h9) rfl dMd_first_3 ?_
  refine lv_istore (lv' := [(4, .int S.2.2.2.1), (3, .int 0), (0, .ref (ad 0)), (1, .int x1), (2, .int x2)]) hx hb dMd_first_6 hl (by decide) rfl (fun ls hl => ?_)
  refine (?_ : ∀ (k j : Nat) (x3 : Int32) (x4 : Int32) (ls : Array Slot) (H : Heap) (locs : List Loc), lv_has ls 5 [(0, .ref (ad 0)), (1, .int x1), (2, .int x2), (3, .int x3), (4, .int x4)] → va_P (dC, dI) vwCl [((ad 0), .inr (7, [.int S.1, .int S.2.1, .int S.2.2.1, .int S.2.2.2.1, .int S.2.2.2.2.1, .int S.2.2.2.2.2.1, .int S.2.2.2.2.2.2.1, .int S.2.2.2.2.2.2.2.1, .ref (ad 1), .ref (ad 2), .ref (ad 3), .ref (ad 4), .ref (ad 5), .ref (ad 6), .ref (ad 7), .ref (ad 8), .ref (ad 9), .ref (ad 10), .ref (ad 11), .int S.2.2.2.2.2.2.2.2.2.2.2.2.2.2.2.2.2.2.2.1, .int S.2.2.2.2.2.2.2.2.2.2.2.2.2.2.2.2.2.2.2.2.1, .int S.2.2.2.2.2.2.2.2.2.2.2.2.2.2.2.2.2.2.2.2.2.1, .int S.2.2.2.2.2.2.2.2.2.2.2.2.2.2.2.2.2.2.2.2.2.2.1, .int S.2.2.2.2.2.2.2.2.2.2.2.2.2.2.2.2.2.2.2.2.2.2.2])), ((ad 1), .inl (kI, 61, .inl S.2.2.2.2.2.2.2.2.1)), ((ad 2), .inl (kI, 61, .inl S.2.2.2.2.2.2.2.2.2.1)), ((ad 3), .inl (kI, 61, .inl S.2.2.2.2.2.2.2.2.2.2.1)), ((ad 4), .inl (kI, 100, .inl S.2.2.2.2.2.2.2.2.2.2.2.1)), ((ad 5), .inl (kI, 100, .inl S.2.2.2.2.2.2.2.2.2.2.2.2.1)), ((ad 6), .inl (kZ, 100, .inl S.2.2.2.2.2.2.2.2.2.2.2.2.2.1)), ((ad 7), .inl (kI, 31, .inl S.2.2.2.2.2.2.2.2.2.2.2.2.2.2.1)), ((ad 8), .inl (kI, 31, .inl S.2.2.2.2.2.2.2.2.2.2.2.2.2.2.2.1)), ((ad 9), .inl (kI, 20, .inl S.2.2.2.2.2.2.2.2.2.2.2.2.2.2.2.2.1)), ((ad 10), .inl (kI, 10, .inl S.2.2.2.2.2.2.2.2.2.2.2.2.2.2.2.2.2.1)), ((ad 11), .inl (kI, 10, .inl S.2.2.2.2.2.2.2.2.2.2.2.2.2.2.2.2.2.2.1))] H → va_S (fun _ => False) s.heap H locs → x4 = nI j → j ≤ 30 → j < k → f_Model_first S x1 x2 = f_Model_first_L8 S x1 x2 k x3 x4 → W p l e _ s m _ below meth c H locs _ _ _ (F0 m 8 ls [])) 31 nU 0 S.2.2.2.1 ls _ _ (lv_sub hl [2, 3, 4, 1, 0] rfl) hP hS (hU) (by omega) (by omega) (rfl)
  intro k8
  induction k8 with
  | zero => intro j8 x3 x4 ls H locs hl hP hS hj8 hjN8 hk8 hI8; exfalso; omega
  | succ k8 ih8 =>
    intro j8 x3 x4 ls H locs hl hP hS hj8 hjN8 hk8 hI8
    refine lv_iload hx hb dMd_first_8 (lv_at hl 4 rfl) ?_
    refine lv_if_le (tgt := 48) hx hb dMd_first_10 (by decide) (fun c_1 => ?_) (fun c_1 => ?_)
    · refine lv_iload_n hx hb dMd_first_48 rfl (lv_at hl 3 rfl) ?_
      exact W.iret (v := x3) hx hb hr (fun t ht hW => ⟨⟨_, (), rfl, (show x3 = f_Model_first S x1 x2 from by rw [hI8, f_Model_first_L8, if_pos c_1]), trivial⟩, hS.F ht⟩) hS.2.2 dMd_first_49
    · have hjp := jposle hj8 c_1
      have hin := in_nI (N := 31) hj8 (by omega) (by decide)
      refine lv_aload_n hx hb dMd_first_13 rfl (lv_at hl 0 rfl) ?_
      refine va_get (D := (dC, dI)) (ci := 7) (v := .ref (ad 7)) (C := RMd) (T := TMd) (N := 24) hx hb hts (by decide +kernel) hown hK hP 0 rfl rfl 14 (by decide) (hts (.fieldLink RMd 29 "DeclarativeRowsModel" "kinds" "[I") (by decide +kernel)) (fun _ h9 => h9) rfl dMd_first_14 ?_
      refine lv_iload hx hb dMd_first_17 (lv_at hl 4 rfl) ?_
      refine va_iald hx hb hK hP 7 0 rfl rfl (i := x4) (hin) dMd_first_19 ?_
      refine lv_iload_n hx hb dMd_first_20 rfl (lv_at hl 1 rfl) ?_
      refine lv_icmp_ne (tgt := 40) hx hb dMd_first_21 (by decide) (fun c_2 => ?_) (fun c_2 => ?_)
      · refine lv_iload_n hx hb dMd_first_40 rfl (lv_at hl 3 rfl) ?_
        refine lv_istore_n (lv' := [(3, .int x3), (0, .ref (ad 0)), (1, .int x1), (2, .int x2), (4, .int x4)]) hx hb dMd_first_41 rfl hl (by decide) rfl (fun ls hl => ?_)
        refine lv_iinc (v := (x4 + (-1))) (lv' := [(4, .int (x4 + (-1))), (3, .int x3), (0, .ref (ad 0)), (1, .int x1), (2, .int x2)]) hx hb dMd_first_42 hl (k := 4) rfl rfl (by decide) rfl (fun ls hl => ?_)
        refine lv_goto (tgt := 8) hx hb dMd_first_45 (by decide) ?_
        exact ih8 (j8 - 1) x3 (x4 + (-1)) ls _ _ (lv_sub hl [2, 3, 4, 1, 0] rfl) hP hS (by rw [hj8]; exact sb_m1 hjp) (by omega) (by omega) (by rw [hI8, f_Model_first_L8, if_neg c_1, if_neg c_2])
      · refine lv_aload_n hx hb dMd_first_24 rfl (lv_at hl 0 rfl) ?_
        refine va_get (D := (dC, dI)) (ci := 7) (v := .ref (ad 8)) (C := RMd) (T := TMd) (N := 24) hx hb hts (by decide +kernel) hown hK hP 0 rfl rfl 15 (by decide) (hts (.fieldLink RMd 32 "DeclarativeRowsModel" "ofs" "[I") (by decide +kernel)) (fun _ h9 => h9) rfl dMd_first_25 ?_
        refine lv_iload hx hb dMd_first_28 (lv_at hl 4 rfl) ?_
        refine va_iald hx hb hK hP 8 0 rfl rfl (i := x4) (hin) dMd_first_30 ?_
        refine lv_iload_n hx hb dMd_first_31 rfl (lv_at hl 2 rfl) ?_
        refine lv_icmp_ne (tgt := 40) hx hb dMd_first_32 (by decide) (fun c_3 => ?_) (fun c_3 => ?_)
        · refine lv_iload_n hx hb dMd_first_40 rfl (lv_at hl 3 rfl) ?_
          refine lv_istore_n (lv' := [(3, .int x3), (0, .ref (ad 0)), (1, .int x1), (2, .int x2), (4, .int x4)]) hx hb dMd_first_41 rfl hl (by decide) rfl (fun ls hl => ?_)
          refine lv_iinc (v := (x4 + (-1))) (lv' := [(4, .int (x4 + (-1))), (3, .int x3), (0, .ref (ad 0)), (1, .int x1), (2, .int x2)]) hx hb dMd_first_42 hl (k := 4) rfl rfl (by decide) rfl (fun ls hl => ?_)
          refine lv_goto (tgt := 8) hx hb dMd_first_45 (by decide) ?_
          exact ih8 (j8 - 1) x3 (x4 + (-1)) ls _ _ (lv_sub hl [2, 3, 4, 1, 0] rfl) hP hS (by rw [hj8]; exact sb_m1 hjp) (by omega) (by omega) (by rw [hI8, f_Model_first_L8, if_neg c_1, if_pos c_2, if_neg c_3])
        · refine lv_iload hx hb dMd_first_35 (lv_at hl 4 rfl) ?_
          refine lv_goto (tgt := 41) hx hb dMd_first_37 (by decide) ?_
          refine lv_istore_n (lv' := [(3, .int x4), (0, .ref (ad 0)), (1, .int x1), (2, .int x2), (4, .int x4)]) hx hb dMd_first_41 rfl hl (by decide) rfl (fun ls hl => ?_)
          refine lv_iinc (v := (x4 + (-1))) (lv' := [(4, .int (x4 + (-1))), (3, .int x4), (0, .ref (ad 0)), (1, .int x1), (2, .int x2)]) hx hb dMd_first_42 hl (k := 4) rfl rfl (by decide) rfl (fun ls hl => ?_)
          refine lv_goto (tgt := 8) hx hb dMd_first_45 (by decide) ?_
          exact ih8 (j8 - 1) x4 (x4 + (-1)) ls _ _ (lv_sub hl [2, 3, 4, 1, 0] rfl) hP hS (by rw [hj8]; exact sb_m1 hjp) (by omega) (by omega) (by rw [hI8, f_Model_first_L8, if_neg c_1, if_pos c_2, if_pos c_3])
set_option maxHeartbeats 4000000 in
set_option maxRecDepth 100000 in
theorem m_Model_takerOf (l : Launch) (dC : Nat → ClassId) (dI : Nat → Nat → Nat) (kI kZ : ClassId) (ad : Nat → Nat) (S : S_Model) (x1 : Int32) (hM : MI S) (j0 : Nat) (hj0 : x1 = nI j0) (hj60 : j0 ≤ 60) : Met l yMd_takerOf wsMd_takerOf ({ frames := 1, cells := 0, slots := 0, locals := 24 }) (r_Pc dC dI kI kZ [.ref (ad 0), .int x1] (w_Model kI kZ ad S)) (r_Qc (f_Model_takerOf S x1)) 0 0 (fun _ => False) := by
  refine Met.ofW (cc := cMd_takerOf) (maxL := 4) (ret := (some .int)) (by decide) rfl ?_
  intro p e s m args below meth c s₁ B hml hv
  obtain ⟨rfl, hP, hX⟩ := hv
  have hK := hX.1
  have hx := B.exec
  have hb := B.bytes
  have hr := B.returns
  have hts := atoms_spec (ws := wsMd_takerOf) B.pre
  have hown : s.vm.findClass RMd = some m.cls := findClass_of_methodNamed B.named
  have hlocks := B.notSynchronized
  have hS : va_S (fun _ => False) s.heap s.heap [] := va_S.rf
  have hP : va_P (dC, dI) vwCl [((ad 0), .inr (7, [.int S.1, .int S.2.1, .int S.2.2.1, .int S.2.2.2.1, .int S.2.2.2.2.1, .int S.2.2.2.2.2.1, .int S.2.2.2.2.2.2.1, .int S.2.2.2.2.2.2.2.1, .ref (ad 1), .ref (ad 2), .ref (ad 3), .ref (ad 4), .ref (ad 5), .ref (ad 6), .ref (ad 7), .ref (ad 8), .ref (ad 9), .ref (ad 10), .ref (ad 11), .int S.2.2.2.2.2.2.2.2.2.2.2.2.2.2.2.2.2.2.2.1, .int S.2.2.2.2.2.2.2.2.2.2.2.2.2.2.2.2.2.2.2.2.1, .int S.2.2.2.2.2.2.2.2.2.2.2.2.2.2.2.2.2.2.2.2.2.1, .int S.2.2.2.2.2.2.2.2.2.2.2.2.2.2.2.2.2.2.2.2.2.2.1, .int S.2.2.2.2.2.2.2.2.2.2.2.2.2.2.2.2.2.2.2.2.2.2.2])), ((ad 1), .inl (kI, 61, .inl S.2.2.2.2.2.2.2.2.1)), ((ad 2), .inl (kI, 61, .inl S.2.2.2.2.2.2.2.2.2.1)), ((ad 3), .inl (kI, 61, .inl S.2.2.2.2.2.2.2.2.2.2.1)), ((ad 4), .inl (kI, 100, .inl S.2.2.2.2.2.2.2.2.2.2.2.1)), ((ad 5), .inl (kI, 100, .inl S.2.2.2.2.2.2.2.2.2.2.2.2.1)), ((ad 6), .inl (kZ, 100, .inl S.2.2.2.2.2.2.2.2.2.2.2.2.2.1)), ((ad 7), .inl (kI, 31, .inl S.2.2.2.2.2.2.2.2.2.2.2.2.2.2.1)), ((ad 8), .inl (kI, 31, .inl S.2.2.2.2.2.2.2.2.2.2.2.2.2.2.2.1)), ((ad 9), .inl (kI, 20, .inl S.2.2.2.2.2.2.2.2.2.2.2.2.2.2.2.2.1)), ((ad 10), .inl (kI, 10, .inl S.2.2.2.2.2.2.2.2.2.2.2.2.2.2.2.2.2.1)), ((ad 11), .inl (kI, 10, .inl S.2.2.2.2.2.2.2.2.2.2.2.2.2.2.2.2.2.2.1))] s.heap := hP
  have hl := lv_entry ([.ref (ad 0), .int x1]) (n := 4) (Nat.le_of_ble_eq_true rfl)
  rw [lg_entry_eq]
  generalize (lg_sl ([.ref (ad 0), .int x1]) ++ List.replicate (4 - (lg_sl ([.ref (ad 0), .int x1])).length) Slot.unset).toArray = ls at hl ⊢
  have hl : lv_has ls 4 [(0, .ref (ad 0)), (1, .int x1)] := hl
  obtain ⟨nE, nC, nU, nR, hE, hE60, hC, hC100, hU, hU30, hR, hR10, hab, hons, hend⟩ := id hM
  refine lv_iconst (v := 0) hx hb dMd_takerOf_0 (by decide) ?_
  refine lv_istore_n (lv' := [(2, .int 0), (0, .ref (ad 0)), (1, .int x1)]) hx hb dMd_takerOf_1 rfl hl (by decide) rfl (fun ls hl => ?_)
  refine lv_iload_n hx hb dMd_takerOf_2 rfl (lv_at hl 2 rfl) ?_
  refine lv_istore_n (lv' := [(3, .int x1), (2, .int 0), (0, .ref (ad 0)), (1, .int x1)]) hx hb dMd_takerOf_3 rfl hl (by decide) rfl (fun ls hl => ?_)
  refine (?_ : ∀ (k j : Nat) (x2 : Int32) (x3 : Int32) (ls : Array Slot) (H : Heap) (locs : List Loc), lv_has ls 4 [(0, .ref (ad 0)), (1, .int x1), (2, .int x2), (3, .int x3)] → va_P (dC, dI) vwCl [((ad 0), .inr (7, [.int S.1, .int S.2.1, .int S.2.2.1, .int S.2.2.2.1, .int S.2.2.2.2.1, .int S.2.2.2.2.2.1, .int S.2.2.2.2.2.2.1, .int S.2.2.2.2.2.2.2.1, .ref (ad 1), .ref (ad 2), .ref (ad 3), .ref (ad 4), .ref (ad 5), .ref (ad 6), .ref (ad 7), .ref (ad 8), .ref (ad 9), .ref (ad 10), .ref (ad 11), .int S.2.2.2.2.2.2.2.2.2.2.2.2.2.2.2.2.2.2.2.1, .int S.2.2.2.2.2.2.2.2.2.2.2.2.2.2.2.2.2.2.2.2.1, .int S.2.2.2.2.2.2.2.2.2.2.2.2.2.2.2.2.2.2.2.2.2.1, .int S.2.2.2.2.2.2.2.2.2.2.2.2.2.2.2.2.2.2.2.2.2.2.1, .int S.2.2.2.2.2.2.2.2.2.2.2.2.2.2.2.2.2.2.2.2.2.2.2])), ((ad 1), .inl (kI, 61, .inl S.2.2.2.2.2.2.2.2.1)), ((ad 2), .inl (kI, 61, .inl S.2.2.2.2.2.2.2.2.2.1)), ((ad 3), .inl (kI, 61, .inl S.2.2.2.2.2.2.2.2.2.2.1)), ((ad 4), .inl (kI, 100, .inl S.2.2.2.2.2.2.2.2.2.2.2.1)), ((ad 5), .inl (kI, 100, .inl S.2.2.2.2.2.2.2.2.2.2.2.2.1)), ((ad 6), .inl (kZ, 100, .inl S.2.2.2.2.2.2.2.2.2.2.2.2.2.1)), ((ad 7), .inl (kI, 31, .inl S.2.2.2.2.2.2.2.2.2.2.2.2.2.2.1)), ((ad 8), .inl (kI, 31, .inl S.2.2.2.2.2.2.2.2.2.2.2.2.2.2.2.1)), ((ad 9), .inl (kI, 20, .inl S.2.2.2.2.2.2.2.2.2.2.2.2.2.2.2.2.1)), ((ad 10), .inl (kI, 10, .inl S.2.2.2.2.2.2.2.2.2.2.2.2.2.2.2.2.2.1)), ((ad 11), .inl (kI, 10, .inl S.2.2.2.2.2.2.2.2.2.2.2.2.2.2.2.2.2.2.1))] H → va_S (fun _ => False) s.heap H locs → x3 = nI j → j ≤ 60 → j < k → f_Model_takerOf S x1 = f_Model_takerOf_L4 S x1 k x2 x3 → W p l e _ s m _ below meth c H locs _ _ _ (F0 m 4 ls [])) 61 j0 0 x1 ls _ _ (lv_sub hl [2, 3, 1, 0] rfl) hP hS (hj0) (by omega) (by omega) (rfl)
  intro k4
  induction k4 with
  | zero => intro j4 x2 x3 ls H locs hl hP hS hj4 hjN4 hk4 hI4; exfalso; omega
  | succ k4 ih4 =>
    intro j4 x2 x3 ls H locs hl hP hS hj4 hjN4 hk4 hI4
    refine lv_iload_n hx hb dMd_takerOf_4 rfl (lv_at hl 3 rfl) ?_
    refine lv_if_eq (tgt := 29) hx hb dMd_takerOf_5 (by decide) (fun c_1 => ?_) (fun c_1 => ?_)
    · refine lv_iload_n hx hb dMd_takerOf_29 rfl (lv_at hl 2 rfl) ?_
      exact W.iret (v := x2) hx hb hr (fun t ht hW => ⟨⟨_, (), rfl, (show x2 = f_Model_takerOf S x1 from by rw [hI4, f_Model_takerOf_L4, if_pos c_1]), trivial⟩, hS.F ht⟩) hS.2.2 dMd_takerOf_30
    · refine lv_iload_n hx hb dMd_takerOf_8 rfl (lv_at hl 2 rfl) ?_
      refine lv_if_ne (tgt := 29) hx hb dMd_takerOf_9 (by decide) (fun c_2 => ?_) (fun c_2 => ?_)
      · refine lv_iload_n hx hb dMd_takerOf_29 rfl (lv_at hl 2 rfl) ?_
        exact W.iret (v := x2) hx hb hr (fun t ht hW => ⟨⟨_, (), rfl, (show x2 = f_Model_takerOf S x1 from by rw [hI4, f_Model_takerOf_L4, if_neg c_1, if_neg c_2]), trivial⟩, hS.F ht⟩) hS.2.2 dMd_takerOf_30
      · obtain ⟨jn, hjn, hjn2⟩ := hab j4 (jpos hj4 c_1) (by omega)
        refine lv_aload_n hx hb dMd_takerOf_12 rfl (lv_at hl 0 rfl) ?_
        refine lv_iconst (v := 0) hx hb dMd_takerOf_13 (by decide) ?_
        refine lv_iload_n hx hb dMd_takerOf_14 rfl (lv_at hl 3 rfl) ?_
        refine xx_callR (dC := dC) (dI := dI) (va_runV (As := [.int 0, .int x3]) (rest := []) ⟨hx, hb, hml, hown, hts⟩ (m_Model_first l dC dI kI kZ ad S 0 x3 hM) (cwV 2 hts gMd_takerOf_Md_first rfl rfl rfl (by decide +kernel) ⟨Nat.le_of_ble_eq_true rfl, Nat.le_of_ble_eq_true rfl⟩) (xx_preR hX (hP.sub (ws' := (w_Model kI kZ ad S)) [0, 1, 2, 3, 4, 5, 6, 7, 8, 9, 10, 11] rfl) (ci := 7) (q0 := 0) rfl rfl) rfl rfl hl.1 rfl (lv_room (Nat.le_of_ble_eq_true rfl)) dMd_takerOf_15 ⟨Nat.le_of_ble_eq_true rfl, Nat.le_of_ble_eq_true rfl⟩) hS (fun H locs kp hS => ?_)
        have hP := kp _ hP
        refine lv_istore_n (lv' := [(2, .int (f_Model_first S 0 x3)), (0, .ref (ad 0)), (1, .int x1), (3, .int x3)]) hx hb dMd_takerOf_18 rfl hl (by decide) rfl (fun ls hl => ?_)
        refine lv_aload_n hx hb dMd_takerOf_19 rfl (lv_at hl 1 rfl) ?_
        refine va_get (D := (dC, dI)) (ci := 7) (v := .ref (ad 3)) (C := RMd) (T := TMd) (N := 24) hx hb hts (by decide +kernel) hown hK hP 0 rfl rfl 10 (by decide) (hts (.fieldLink RMd 16 "DeclarativeRowsModel" "aboves" "[I") (by decide +kernel)) (fun _ h9 => h9) rfl dMd_takerOf_20 ?_
        refine lv_iload_n hx hb dMd_takerOf_23 rfl (lv_at hl 3 rfl) ?_
        refine va_iald hx hb hK hP 3 0 rfl rfl (i := x3) (in_nI hj4 (by omega) (by decide)) dMd_takerOf_24 ?_
        refine lv_istore_n (lv' := [(3, .int (S.2.2.2.2.2.2.2.2.2.2.1 x3.toNatClampNeg)), (2, .int (f_Model_first S 0 x3)), (0, .ref (ad 0)), (1, .int x1)]) hx hb dMd_takerOf_25 rfl hl (by decide) rfl (fun ls hl => ?_)
        refine lv_goto (tgt := 4) hx hb dMd_takerOf_26 (by decide) ?_
        exact ih4 (jn) (f_Model_first S 0 x3) (S.2.2.2.2.2.2.2.2.2.2.1 x3.toNatClampNeg) ls _ _ (lv_sub hl [2, 3, 1, 0] rfl) hP hS (by rw [hj4, nI_clamp (by omega)]; exact hjn2) (by omega) (by omega) (by rw [hI4, f_Model_takerOf_L4, if_neg c_1, if_pos c_2])
set_option maxHeartbeats 4000000 in
set_option maxRecDepth 100000 in
theorem m_Model_isRunning (l : Launch) (dC : Nat → ClassId) (dI : Nat → Nat → Nat) (kI kZ : ClassId) (ad : Nat → Nat) (S : S_Model) (x1 : Int32) (hM : MI S) : Met l yMd_isRunning wsMd_isRunning ({ frames := 0, cells := 0, slots := 0, locals := 0 }) (r_Pc dC dI kI kZ [.ref (ad 0), .int x1] (w_Model kI kZ ad S)) (r_Qc (f_Model_isRunning S x1)) 0 0 (fun _ => False) := by
  refine Met.ofW (cc := cMd_isRunning) (maxL := 4) (ret := (some .boolean)) (by decide) rfl ?_
  intro p e s m args below meth c s₁ B hml hv
  obtain ⟨rfl, hP, hX⟩ := hv
  have hK := hX.1
  have hx := B.exec
  have hb := B.bytes
  have hr := B.returns
  have hts := atoms_spec (ws := wsMd_isRunning) B.pre
  have hown : s.vm.findClass RMd = some m.cls := findClass_of_methodNamed B.named
  have hlocks := B.notSynchronized
  have hS : va_S (fun _ => False) s.heap s.heap [] := va_S.rf
  have hP : va_P (dC, dI) vwCl [((ad 0), .inr (7, [.int S.1, .int S.2.1, .int S.2.2.1, .int S.2.2.2.1, .int S.2.2.2.2.1, .int S.2.2.2.2.2.1, .int S.2.2.2.2.2.2.1, .int S.2.2.2.2.2.2.2.1, .ref (ad 1), .ref (ad 2), .ref (ad 3), .ref (ad 4), .ref (ad 5), .ref (ad 6), .ref (ad 7), .ref (ad 8), .ref (ad 9), .ref (ad 10), .ref (ad 11), .int S.2.2.2.2.2.2.2.2.2.2.2.2.2.2.2.2.2.2.2.1, .int S.2.2.2.2.2.2.2.2.2.2.2.2.2.2.2.2.2.2.2.2.1, .int S.2.2.2.2.2.2.2.2.2.2.2.2.2.2.2.2.2.2.2.2.2.1, .int S.2.2.2.2.2.2.2.2.2.2.2.2.2.2.2.2.2.2.2.2.2.2.1, .int S.2.2.2.2.2.2.2.2.2.2.2.2.2.2.2.2.2.2.2.2.2.2.2])), ((ad 1), .inl (kI, 61, .inl S.2.2.2.2.2.2.2.2.1)), ((ad 2), .inl (kI, 61, .inl S.2.2.2.2.2.2.2.2.2.1)), ((ad 3), .inl (kI, 61, .inl S.2.2.2.2.2.2.2.2.2.2.1)), ((ad 4), .inl (kI, 100, .inl S.2.2.2.2.2.2.2.2.2.2.2.1)), ((ad 5), .inl (kI, 100, .inl S.2.2.2.2.2.2.2.2.2.2.2.2.1)), ((ad 6), .inl (kZ, 100, .inl S.2.2.2.2.2.2.2.2.2.2.2.2.2.1)), ((ad 7), .inl (kI, 31, .inl S.2.2.2.2.2.2.2.2.2.2.2.2.2.2.1)), ((ad 8), .inl (kI, 31, .inl S.2.2.2.2.2.2.2.2.2.2.2.2.2.2.2.1)), ((ad 9), .inl (kI, 20, .inl S.2.2.2.2.2.2.2.2.2.2.2.2.2.2.2.2.1)), ((ad 10), .inl (kI, 10, .inl S.2.2.2.2.2.2.2.2.2.2.2.2.2.2.2.2.2.1)), ((ad 11), .inl (kI, 10, .inl S.2.2.2.2.2.2.2.2.2.2.2.2.2.2.2.2.2.2.1))] s.heap := hP
  have hl := lv_entry ([.ref (ad 0), .int x1]) (n := 4) (Nat.le_of_ble_eq_true rfl)
  rw [lg_entry_eq]
  generalize (lg_sl ([.ref (ad 0), .int x1]) ++ List.replicate (4 - (lg_sl ([.ref (ad 0), .int x1])).length) Slot.unset).toArray = ls at hl ⊢
  have hl : lv_has ls 4 [(0, .ref (ad 0)), (1, .int x1)] := hl
  obtain ⟨nE, nC, nU, nR, hE, hE60, hC, hC100, hU, hU30, hR, hR10, hab, hons, hend⟩ := id hM
  refine lv_iconst (v := 0) hx hb dMd_isRunning_0 (by decide) ?_
  refine lv_istore_n (lv' := [(2, .int 0), (0, .ref (ad 0)), (1, .int x1)]) hx hb dMd_isRunning_1 rfl hl (by decide) rfl (fun ls hl => ?_)
  refine lv_iconst (v := 0) hx hb dMd_isRunning_2 (by decide) ?_
  refine lv_istore_n (lv' := [(3, .int 0), (2, .int 0), (0, .ref (ad 0)), (1, .int x1)]) hx hb dMd_isRunning_3 rfl hl (by decide) rfl (fun ls hl => ?_)
  refine (?_ : ∀ (k j : Nat) (x2 : Int32) (x3 : Int32) (ls : Array Slot) (H : Heap) (locs : List Loc), lv_has ls 4 [(0, .ref (ad 0)), (1, .int x1), (2, .int x2), (3, .int x3)] → va_P (dC, dI) vwCl [((ad 0), .inr (7, [.int S.1, .int S.2.1, .int S.2.2.1, .int S.2.2.2.1, .int S.2.2.2.2.1, .int S.2.2.2.2.2.1, .int S.2.2.2.2.2.2.1, .int S.2.2.2.2.2.2.2.1, .ref (ad 1), .ref (ad 2), .ref (ad 3), .ref (ad 4), .ref (ad 5), .ref (ad 6), .ref (ad 7), .ref (ad 8), .ref (ad 9), .ref (ad 10), .ref (ad 11), .int S.2.2.2.2.2.2.2.2.2.2.2.2.2.2.2.2.2.2.2.1, .int S.2.2.2.2.2.2.2.2.2.2.2.2.2.2.2.2.2.2.2.2.1, .int S.2.2.2.2.2.2.2.2.2.2.2.2.2.2.2.2.2.2.2.2.2.1, .int S.2.2.2.2.2.2.2.2.2.2.2.2.2.2.2.2.2.2.2.2.2.2.1, .int S.2.2.2.2.2.2.2.2.2.2.2.2.2.2.2.2.2.2.2.2.2.2.2])), ((ad 1), .inl (kI, 61, .inl S.2.2.2.2.2.2.2.2.1)), ((ad 2), .inl (kI, 61, .inl S.2.2.2.2.2.2.2.2.2.1)), ((ad 3), .inl (kI, 61, .inl S.2.2.2.2.2.2.2.2.2.2.1)), ((ad 4), .inl (kI, 100, .inl S.2.2.2.2.2.2.2.2.2.2.2.1)), ((ad 5), .inl (kI, 100, .inl S.2.2.2.2.2.2.2.2.2.2.2.2.1)), ((ad 6), .inl (kZ, 100, .inl S.2.2.2.2.2.2.2.2.2.2.2.2.2.1)), ((ad 7), .inl (kI, 31, .inl S.2.2.2.2.2.2.2.2.2.2.2.2.2.2.1)), ((ad 8), .inl (kI, 31, .inl S.2.2.2.2.2.2.2.2.2.2.2.2.2.2.2.1)), ((ad 9), .inl (kI, 20, .inl S.2.2.2.2.2.2.2.2.2.2.2.2.2.2.2.2.1)), ((ad 10), .inl (kI, 10, .inl S.2.2.2.2.2.2.2.2.2.2.2.2.2.2.2.2.2.1)), ((ad 11), .inl (kI, 10, .inl S.2.2.2.2.2.2.2.2.2.2.2.2.2.2.2.2.2.2.1))] H → va_S (fun _ => False) s.heap H locs → x3 = nI j → j ≤ 10 → 10 < j + k → f_Model_isRunning S x1 = f_Model_isRunning_L4 S x1 k x2 x3 → (x2 = 0 ∨ x2 = 1) → W p l e _ s m _ below meth c H locs _ _ _ (F0 m 4 ls [])) 11 0 0 0 ls _ _ (lv_sub hl [2, 3, 1, 0] rfl) hP hS (nI_0.symm) (by omega) (by omega) (rfl) (Or.inl rfl)
  intro k4
  induction k4 with
  | zero => intro j4 x2 x3 ls H locs hl hP hS hj4 hjN4 hk4 hI4 hv0; exfalso; omega
  | succ k4 ih4 =>
    intro j4 x2 x3 ls H locs hl hP hS hj4 hjN4 hk4 hI4 hv0
    refine lv_iload_n hx hb dMd_isRunning_4 rfl (lv_at hl 3 rfl) ?_
    refine lv_aload_n hx hb dMd_isRunning_5 rfl (lv_at hl 0 rfl) ?_
    refine va_get (D := (dC, dI)) (ci := 7) (v := .int S.2.2.2.2.1) (C := RMd) (T := TMd) (N := 24) hx hb hts (by decide +kernel) hown hK hP 0 rfl rfl 4 (by decide) (hts (.fieldLink RMd 72 "DeclarativeRowsModel" "running" "I") (by decide +kernel)) (fun _ h9 => h9) rfl dMd_isRunning_6 ?_
    refine lv_icmp_ge (tgt := 38) hx hb dMd_isRunning_9 (by decide) (fun c_1 => ?_) (fun c_1 => ?_)
    · refine lv_iload_n hx hb dMd_isRunning_38 rfl (lv_at hl 2 rfl) ?_
      exact W.zret (v := x2) hx hb hr (nar_b hv0) (fun t ht hW => ⟨⟨_, (), rfl, (show x2 = f_Model_isRunning S x1 from by rw [hI4, f_Model_isRunning_L4, if_pos c_1]), trivial⟩, hS.F ht⟩) hS.2.2 dMd_isRunning_39
    · have hjl : j4 < nR := jlt hR hj4 (by omega) (by omega) c_1
      refine lv_iload_n hx hb dMd_isRunning_12 rfl (lv_at hl 2 rfl) ?_
      refine lv_if_ne (tgt := 26) hx hb dMd_isRunning_13 (by decide) (fun c_2 => ?_) (fun c_2 => ?_)
      · refine lv_iconst (v := 1) hx hb dMd_isRunning_26 (by decide) ?_
        refine lv_goto (tgt := 31) hx hb dMd_isRunning_27 (by decide) ?_
        refine lv_istore_n (lv' := [(2, .int 1), (0, .ref (ad 0)), (1, .int x1), (3, .int x3)]) hx hb dMd_isRunning_31 rfl hl (by decide) rfl (fun ls hl => ?_)
        refine lv_iinc (v := (x3 + 1)) (lv' := [(3, .int (x3 + 1)), (2, .int 1), (0, .ref (ad 0)), (1, .int x1)]) hx hb dMd_isRunning_32 hl (k := 3) rfl rfl (by decide) rfl (fun ls hl => ?_)
        refine lv_goto (tgt := 4) hx hb dMd_isRunning_35 (by decide) ?_
        exact ih4 (j4 + 1) 1 (x3 + 1) ls _ _ (lv_sub hl [2, 3, 1, 0] rfl) hP hS (by rw [hj4]; exact nI_1 j4) (by omega) (by omega) (by rw [hI4, f_Model_isRunning_L4, if_neg c_1, if_neg c_2]) (by first | exact hv0 | exact Or.inl rfl | exact Or.inr rfl)
      · refine lv_aload_n hx hb dMd_isRunning_16 rfl (lv_at hl 0 rfl) ?_
        refine va_get (D := (dC, dI)) (ci := 7) (v := .ref (ad 10)) (C := RMd) (T := TMd) (N := 24) hx hb hts (by decide +kernel) hown hK hP 0 rfl rfl 17 (by decide) (hts (.fieldLink RMd 38 "DeclarativeRowsModel" "runs" "[I") (by decide +kernel)) (fun _ h9 => h9) rfl dMd_isRunning_17 ?_
        refine lv_iload_n hx hb dMd_isRunning_20 rfl (lv_at hl 3 rfl) ?_
        refine va_iald hx hb hK hP 10 0 rfl rfl (i := x3) (in_nI hj4 (by omega) (by decide)) dMd_isRunning_21 ?_
        refine lv_iload_n hx hb dMd_isRunning_22 rfl (lv_at hl 1 rfl) ?_
        refine lv_icmp_ne (tgt := 30) hx hb dMd_isRunning_23 (by decide) (fun c_3 => ?_) (fun c_3 => ?_)
        · refine lv_iconst (v := 0) hx hb dMd_isRunning_30 (by decide) ?_
          refine lv_istore_n (lv' := [(2, .int 0), (0, .ref (ad 0)), (1, .int x1), (3, .int x3)]) hx hb dMd_isRunning_31 rfl hl (by decide) rfl (fun ls hl => ?_)
          refine lv_iinc (v := (x3 + 1)) (lv' := [(3, .int (x3 + 1)), (2, .int 0), (0, .ref (ad 0)), (1, .int x1)]) hx hb dMd_isRunning_32 hl (k := 3) rfl rfl (by decide) rfl (fun ls hl => ?_)
          refine lv_goto (tgt := 4) hx hb dMd_isRunning_35 (by decide) ?_
          exact ih4 (j4 + 1) 0 (x3 + 1) ls _ _ (lv_sub hl [2, 3, 1, 0] rfl) hP hS (by rw [hj4]; exact nI_1 j4) (by omega) (by omega) (by rw [hI4, f_Model_isRunning_L4, if_neg c_1, if_pos c_2, if_neg c_3]) (by first | exact hv0 | exact Or.inl rfl | exact Or.inr rfl)
        · refine lv_iconst (v := 1) hx hb dMd_isRunning_26 (by decide) ?_
          refine lv_goto (tgt := 31) hx hb dMd_isRunning_27 (by decide) ?_
          refine lv_istore_n (lv' := [(2, .int 1), (0, .ref (ad 0)), (1, .int x1), (3, .int x3)]) hx hb dMd_isRunning_31 rfl hl (by decide) rfl (fun ls hl => ?_)
          refine lv_iinc (v := (x3 + 1)) (lv' := [(3, .int (x3 + 1)), (2, .int 1), (0, .ref (ad 0)), (1, .int x1)]) hx hb dMd_isRunning_32 hl (k := 3) rfl rfl (by decide) rfl (fun ls hl => ?_)
          refine lv_goto (tgt := 4) hx hb dMd_isRunning_35 (by decide) ?_
          exact ih4 (j4 + 1) 1 (x3 + 1) ls _ _ (lv_sub hl [2, 3, 1, 0] rfl) hP hS (by rw [hj4]; exact nI_1 j4) (by omega) (by omega) (by rw [hI4, f_Model_isRunning_L4, if_neg c_1, if_pos c_2, if_pos c_3]) (by first | exact hv0 | exact Or.inl rfl | exact Or.inr rfl)
