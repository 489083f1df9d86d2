theorem le_p {x a b : Int32} (h : a.toInt + 1 = b.toInt) : b ≤ x ↔ ¬ x ≤ a := by
  rw [Int32.le_iff_toInt_le, Int32.le_iff_toInt_le]
  omega
theorem below_n {x b : Int32} (h : x < 0) : f_Rows_isBelow x b = 0 := by unfold f_Rows_isBelow; rw [if_pos h]
theorem below_h {x b : Int32} (h : b ≤ x) : f_Rows_isBelow x b = 0 := by
  unfold f_Rows_isBelow
  by_cases h0 : x < 0
  · rw [if_pos h0]
  · rw [if_neg h0, if_pos h]
theorem below_y {x b : Int32} (h0 : ¬ x < 0) (h : ¬ b ≤ x) : ¬ f_Rows_isBelow x b = 0 := by
  unfold f_Rows_isBelow
  rw [if_neg h0, if_neg h]
  decide
theorem below_of {x b : Int32} (h : ¬ f_Rows_isBelow x b = 0) : ¬ x < 0 ∧ ¬ b ≤ x := by
  refine ⟨fun q => h (below_n q), fun q => h (below_h q)⟩
theorem nar01 (x : Int32) : vp_nar .boolean x = 0 ∨ vp_nar .boolean x = 1 := by
  obtain ⟨j, hj, e⟩ := pk_andE x (m := 1) 1 rfl
  have e2 : vp_nar .boolean x = x &&& 1 := rfl
  rw [e2, e]
  rcases (show j = 0 ∨ j = 1 by omega) with q | q <;> rw [q]
  · exact Or.inl rfl
  · exact Or.inr rfl
theorem useadd {U : S_Uses} {us : Int32} {kd af : Nat → Int32} {n : Nat} (h : RelU U us kd af n) (k o : Int32) (hk : k = 2 → ¬ o = -1) : (us = 30 → f_Uses_add U k o = (-1, U)) ∧ (¬ us = 30 → (f_Uses_add U k o).1 = us + 1 ∧ RelU (f_Uses_add U k o).2 (us + 1) (upd kd (us + 1).toNatClampNeg k) (upd af (us + 1).toNatClampNeg o) (n + 1)) := by
  obtain ⟨h1, h2, h3, h4⟩ := h
  unfold f_Uses_add
  constructor
  · intro q
    have q2 : n = 30 := (nI_eq (by omega) (by decide)).mp (h2.symm.trans (q.trans rfl))
    rw [h1, q2, if_pos (by rfl)]
  · intro q
    have q2 : n ≠ 30 := fun z => q (by rw [h2, z]; rfl)
    rw [h1, h2, nI_1, if_neg (rowU_1 (by omega)), nI_clamp (by omega), nI_clamp (by omega)]
    refine ⟨rfl, rfl, rfl, by omega, fun i hi => ?_⟩
    by_cases e : i = n
    · subst e
      refine ⟨?_, ?_, ?_⟩
      · show upd U.1 i k i = upd kd (i + 1) k (i + 1); rw [pk_us, pk_us]
      · show upd U.2.1 i o i = upd af (i + 1) o (i + 1); rw [pk_us, pk_us]
      · show upd U.1 i k i = 2 → ¬ upd U.2.1 i o i = -1; rw [pk_us, pk_us]; exact hk
    · obtain ⟨g1, g2, g3⟩ := h4 i (by omega)
      refine ⟨?_, ?_, ?_⟩
      · show upd U.1 n k i = upd kd (n + 1) k (i + 1); rw [pk_un e, pk_un (by omega)]; exact g1
      · show upd U.2.1 n o i = upd af (n + 1) o (i + 1); rw [pk_un e, pk_un (by omega)]; exact g2
      · show upd U.1 n k i = 2 → ¬ upd U.2.1 n o i = -1; rw [pk_un e, pk_un e]; exact g3
theorem use_tail {X : S_Rows} {M : S_Model} (h : Rel X M) (k o : Int32) (hk : k = 2 → ¬ o = -1) : (f_Uses_add X.2.2.1 k o).1 = ((if M.2.2.2.1 = 30 then (-1, (0, M.2)) else (M.2.2.2.1 + 1, (0, M.2.1, M.2.2.1, M.2.2.2.1 + 1, M.2.2.2.2.1, M.2.2.2.2.2.1, M.2.2.2.2.2.2.1, M.2.2.2.2.2.2.2.1, M.2.2.2.2.2.2.2.2.1, M.2.2.2.2.2.2.2.2.2.1, M.2.2.2.2.2.2.2.2.2.2.1, M.2.2.2.2.2.2.2.2.2.2.2.1, M.2.2.2.2.2.2.2.2.2.2.2.2.1, M.2.2.2.2.2.2.2.2.2.2.2.2.2.1, upd M.2.2.2.2.2.2.2.2.2.2.2.2.2.2.1 (M.2.2.2.1 + 1).toNatClampNeg k, upd M.2.2.2.2.2.2.2.2.2.2.2.2.2.2.2.1 (M.2.2.2.1 + 1).toNatClampNeg o, M.2.2.2.2.2.2.2.2.2.2.2.2.2.2.2.2))) : Int32 × S_Model).1 ∧ Rel (X.1, X.2.1, (f_Uses_add X.2.2.1 k o).2, X.2.2.2) ((if M.2.2.2.1 = 30 then (-1, (0, M.2)) else (M.2.2.2.1 + 1, (0, M.2.1, M.2.2.1, M.2.2.2.1 + 1, M.2.2.2.2.1, M.2.2.2.2.2.1, M.2.2.2.2.2.2.1, M.2.2.2.2.2.2.2.1, M.2.2.2.2.2.2.2.2.1, M.2.2.2.2.2.2.2.2.2.1, M.2.2.2.2.2.2.2.2.2.2.1, M.2.2.2.2.2.2.2.2.2.2.2.1, M.2.2.2.2.2.2.2.2.2.2.2.2.1, M.2.2.2.2.2.2.2.2.2.2.2.2.2.1, upd M.2.2.2.2.2.2.2.2.2.2.2.2.2.2.1 (M.2.2.2.1 + 1).toNatClampNeg k, upd M.2.2.2.2.2.2.2.2.2.2.2.2.2.2.2.1 (M.2.2.2.1 + 1).toNatClampNeg o, M.2.2.2.2.2.2.2.2.2.2.2.2.2.2.2.2))) : Int32 × S_Model).2 := by
  obtain ⟨nE, nC, nU, nR, hE, hC, hU, hM, hR, hL, hZ⟩ := id h
  obtain ⟨u1, u2⟩ := useadd hU k o hk
  by_cases q : M.2.2.2.1 = 30
  · rw [if_pos q, u1 q]
    exact ⟨rfl, h⟩
  · rw [if_neg q]
    exact ⟨(u2 q).1, nE, nC, nU + 1, nR, hE, hC, (u2 q).2, hM, hR, hL, hZ⟩
theorem q_use {X : S_Rows} {M : S_Model} (h : Rel X M) (x1 x2 : Int32) : (f_Rows_use X x1 x2).1 = (f_Model_use M x1 x2).1 ∧ Rel (f_Rows_use X x1 x2).2 (f_Model_use M x1 x2).2 := by
  have ht := use_tail h
  obtain ⟨nE, nC, nU, nR, hE, -⟩ := id h
  unfold f_Rows_use f_Model_use
  by_cases a0 : x1 = 0
  · subst a0
    have e : f_Model_isException (0, M.2) x2 = f_Tree_has X.1 x2 := (has_eq (S := (0, M.2)) hE.1 hE.2.1 hE.2.2.1 x2).symm
    rw [if_pos (show (0 : Int32) = 0 from rfl), if_pos (show (0 : Int32) = 0 from rfl), if_neg (show ¬ (0 : Int32) < 0 by decide), if_neg (show ¬ (2 : Int32) < 0 by decide), if_neg (show ¬ (0 : Int32) = 1 by decide), if_neg (show ¬ (0 : Int32) = 2 by decide), e]
    by_cases q : f_Tree_has X.1 x2 = 0
    · rw [if_pos q, if_pos q]; exact ⟨rfl, h⟩
    · rw [if_neg q, if_neg q]; exact ht 0 x2 (fun z => absurd z (by decide))
  by_cases a1 : x1 = 1
  · subst a1
    have e : f_Model_isFile x2 = f_Rows_isBelow x2 20 := rfl
    rw [if_neg a0, if_pos (show (1 : Int32) = 1 from rfl), if_pos (show (1 : Int32) = 1 from rfl), if_neg (show ¬ (1 : Int32) < 0 by decide), if_neg (show ¬ (2 : Int32) < 1 by decide), if_neg (show ¬ (1 : Int32) = 2 by decide), if_neg a0, e]
    by_cases q : f_Rows_isBelow x2 20 = 0
    · rw [if_pos q, if_pos q]; exact ⟨rfl, h⟩
    · rw [if_neg q, if_neg q]; exact ht 1 x2 (fun z => absurd z (by decide))
  by_cases a2 : x1 = 2
  · subst a2
    rw [if_neg a0, if_neg a1, if_pos (show (2 : Int32) = 2 from rfl), if_neg (show ¬ (2 : Int32) < 0 by decide), if_neg (show ¬ (2 : Int32) < 2 by decide), if_neg a1, if_pos (show (2 : Int32) = 2 from rfl), if_neg a0]
    by_cases q0 : x2 < 0
    · rw [if_pos (below_n q0), if_pos q0]; exact ⟨rfl, h⟩
    · by_cases q1 : x2 ≤ 3
      · rw [if_neg (below_y q0 (fun z => (le_p (a := 3) rfl).mp z q1)), if_neg q0, if_pos q1]
        exact ht 2 x2 (fun _ z => q0 (by rw [z]; decide))
      · rw [if_pos (below_h ((le_p (a := 3) rfl).mpr q1)), if_neg q0, if_neg q1]; exact ⟨rfl, h⟩
  · rw [if_neg a0, if_neg a1, if_neg a2]
    by_cases q0 : x1 < 0
    · rw [if_pos q0]; exact ⟨rfl, h⟩
    · by_cases q1 : 2 < x1
      · rw [if_neg q0, if_pos q1]; exact ⟨rfl, h⟩
      · exfalso
        obtain ⟨j, hj, hx⟩ := nI_of q0
        rw [hx, show (2 : Int32) = nI 2 from rfl, nI_ltI (by decide) hj] at q1
        rcases (show j = 0 ∨ j = 1 ∨ j = 2 by omega) with z | z | z
        · exact a0 (by rw [hx, z]; rfl)
        · exact a1 (by rw [hx, z]; rfl)
        · exact a2 (by rw [hx, z]; rfl)
theorem chkadd {C : S_Checks} {ck : Int32} {cd fr on : Nat → Int32} {n : Nat} (h : RelC C ck cd fr on n) (x1 x2 x3 : Int32) (h1 : ¬ x1 = 0) (h2 : ¬ x2 < 0) : (ck = 100 → f_Checks_add C x1 x2 x3 = (-1, C)) ∧ (¬ ck = 100 → (f_Checks_add C x1 x2 x3).1 = ck + 1 ∧ RelC (f_Checks_add C x1 x2 x3).2 (ck + 1) (upd cd ck.toNatClampNeg x1) (upd fr ck.toNatClampNeg x2) (upd on ck.toNatClampNeg (vp_nar .boolean x3)) (n + 1)) := by
  obtain ⟨g1, g2, g3, g4, g5, g6⟩ := h
  unfold f_Checks_add
  constructor
  · intro q
    have q2 : n = 100 := (nI_eq (by omega) (by decide)).mp (g2.symm.trans (q.trans rfl))
    rw [g1, q2, if_pos (by rfl)]
  · intro q
    have q2 : n ≠ 100 := fun z => q (by rw [g2, z]; rfl)
    rw [g1, g2, nI_1, if_neg (rowC_1 (by omega)), nI_clamp (by omega)]
    refine ⟨rfl, rfl, rfl, by omega, fun i hi => ?_, fun j => ?_, fun j => ?_⟩
    · by_cases e : i = n
      · subst e
        refine ⟨?_, ?_, ?_, ?_, ?_⟩
        · show upd C.1 i x1 i = upd cd i x1 i; rw [pk_us, pk_us]
        · show upd C.2.1 i x2 i = upd fr i x2 i; rw [pk_us, pk_us]
        · show upd C.2.2.1 i (vp_nar .boolean x3) i = upd on i (vp_nar .boolean x3) i; rw [pk_us, pk_us]
        · rw [pk_us]; exact h1
        · rw [pk_us]; exact h2
      · obtain ⟨e1, e2, e3, e4, e5⟩ := g4 i (by omega)
        refine ⟨?_, ?_, ?_, ?_, ?_⟩
        · show upd C.1 n x1 i = upd cd n x1 i; rw [pk_un e, pk_un e]; exact e1
        · show upd C.2.1 n x2 i = upd fr n x2 i; rw [pk_un e, pk_un e]; exact e2
        · show upd C.2.2.1 n (vp_nar .boolean x3) i = upd on n (vp_nar .boolean x3) i; rw [pk_un e, pk_un e]; exact e3
        · rw [pk_un e]; exact e4
        · rw [pk_un e]; exact e5
    · show upd C.2.2.1 n (vp_nar .boolean x3) j = 0 ∨ upd C.2.2.1 n (vp_nar .boolean x3) j = 1
      by_cases e : j = n
      · rw [e, pk_us]; exact nar01 x3
      · rw [pk_un e]; exact g5 j
    · by_cases e : j = n
      · rw [e, pk_us]; exact nar01 x3
      · rw [pk_un e]; exact g6 j
theorem q_check {X : S_Rows} {M : S_Model} (h : Rel X M) (x1 x2 x3 : Int32) : (f_Rows_check X x1 x2 x3).1 = (f_Model_check M x1 x2 x3).1 ∧ Rel (f_Rows_check X x1 x2 x3).2 (f_Model_check M x1 x2 x3).2 := by
  obtain ⟨nE, nC, nU, nR, hE, hC, hU, hM, hR, hL, hZ⟩ := id h
  have e : f_Model_isException (0, M.2) x1 = f_Tree_has X.1 x1 := (has_eq (S := (0, M.2)) hE.1 hE.2.1 hE.2.2.1 x1).symm
  unfold f_Rows_check f_Model_check
  rw [e]
  by_cases q : f_Tree_has X.1 x1 = 0
  · rw [if_pos q, if_pos q]; exact ⟨rfl, h⟩
  rw [if_neg q, if_neg q]
  by_cases q0 : x2 < 0
  · rw [if_pos (below_n q0), if_pos q0]; exact ⟨rfl, h⟩
  by_cases q1 : x2 ≤ 9999
  · rw [if_neg (below_y q0 (fun z => (le_p (a := 9999) rfl).mp z q1)), if_neg q0, if_pos q1]
    obtain ⟨j, hj, j1, j2⟩ := has_of hE.1 hE.2.2.1 q
    obtain ⟨u1, u2⟩ := chkadd hC x1 x2 x3 (by rw [hj]; exact nI_ne0 j1 (by have := hE.2.2.1; omega)) q0
    by_cases z : M.2.2.1 = 100
    · rw [if_pos z, u1 z]; exact ⟨rfl, h⟩
    · rw [if_neg z]
      exact ⟨(u2 z).1, nE, nC + 1, nU, nR, hE, (u2 z).2, hU, hM, hR, hL, hZ⟩
  · rw [if_pos (below_h ((le_p (a := 9999) rfl).mpr q1)), if_neg q0, if_neg q1]; exact ⟨rfl, h⟩
theorem mode_tail {X : S_Rows} {M : S_Model} (h : Rel X M) (x1 x2 : Int32) (q : ¬ f_Rows_isBelow x1 20 = 0) : Rel (X.1, X.2.1, X.2.2.1, f_OpenModes_put X.2.2.2.1 x1 x2, X.2.2.2.2) (0, M.2.1, M.2.2.1, M.2.2.2.1, M.2.2.2.2.1, M.2.2.2.2.2.1, M.2.2.2.2.2.2.1, M.2.2.2.2.2.2.2.1, M.2.2.2.2.2.2.2.2.1, M.2.2.2.2.2.2.2.2.2.1, M.2.2.2.2.2.2.2.2.2.2.1, M.2.2.2.2.2.2.2.2.2.2.2.1, M.2.2.2.2.2.2.2.2.2.2.2.2.1, M.2.2.2.2.2.2.2.2.2.2.2.2.2.1, M.2.2.2.2.2.2.2.2.2.2.2.2.2.2.1, M.2.2.2.2.2.2.2.2.2.2.2.2.2.2.2.1, upd M.2.2.2.2.2.2.2.2.2.2.2.2.2.2.2.2.1 x1.toNatClampNeg x2, M.2.2.2.2.2.2.2.2.2.2.2.2.2.2.2.2.2) := by
  obtain ⟨nE, nC, nU, nR, hE, hC, hU, hM, hR, hL, hZ⟩ := id h
  refine ⟨nE, nC, nU, nR, hE, hC, hU, fun f hf => ?_, hR, hL, hZ⟩
  show f_OpenModes_put X.2.2.2.1 x1 x2 f = upd M.2.2.2.2.2.2.2.2.2.2.2.2.2.2.2.2.1 x1.toNatClampNeg x2 f
  unfold f_OpenModes_put
  rw [if_neg q]
  by_cases e : f = x1.toNatClampNeg
  · rw [e, pk_us, pk_us]
  · rw [pk_un e, pk_un e]; exact hM f hf
theorem q_mode {X : S_Rows} {M : S_Model} (h : Rel X M) (x1 x2 : Int32) : (f_Rows_mode X x1 x2).1 = (f_Model_mode M x1 x2).1 ∧ Rel (f_Rows_mode X x1 x2).2 (f_Model_mode M x1 x2).2 := by
  have e : f_Model_isFile x1 = f_Rows_isBelow x1 20 := rfl
  have a0 : (0 : Int32).toInt = 0 := rfl
  have a1 : (-1 : Int32).toInt = -1 := rfl
  have a3 : (3 : Int32).toInt = 3 := rfl
  unfold f_Rows_mode f_Model_mode
  rw [e]
  by_cases q : f_Rows_isBelow x1 20 = 0
  · rw [if_pos q, if_pos q]; exact ⟨rfl, h⟩
  rw [if_neg q, if_neg q]
  by_cases z : x2 = -1
  · subst z
    rw [if_pos (show (-1 : Int32) = -1 from rfl), if_neg (show ¬ (-1 : Int32) < -1 by decide), if_pos (show (-1 : Int32) ≤ 3 by decide)]
    exact ⟨rfl, mode_tail h x1 (-1) q⟩
  rw [if_neg z]
  by_cases q0 : x2 < 0
  · have q1 : x2 < -1 := by
      rw [Int32.lt_iff_toInt_lt] at q0 ⊢
      have : x2.toInt ≠ (-1 : Int32).toInt := fun w => z (Int32.toInt_inj.mp w)
      omega
    rw [if_pos (below_n q0), if_pos q1]; exact ⟨rfl, h⟩
  · have q1 : ¬ x2 < -1 := by
      rw [Int32.lt_iff_toInt_lt] at q0 ⊢
      omega
    by_cases q2 : x2 ≤ 3
    · rw [if_neg (below_y q0 (fun w => (le_p (a := 3) rfl).mp w q2)), if_neg q1, if_pos q2]
      exact ⟨rfl, mode_tail h x1 x2 q⟩
    · rw [if_pos (below_h ((le_p (a := 3) rfl).mpr q2)), if_neg q1, if_neg q2]; exact ⟨rfl, h⟩
theorem q_ends {X : S_Rows} {M : S_Model} (h : Rel X M) : f_Rows_ends X = (f_Model_ends M).1 ∧ Rel X (f_Model_ends M).2 := by
  obtain ⟨nE, nC, nU, nR, hE, hC, hU, hM, hR, hL, hZ1, hZ2, hZ3, hZ4⟩ := id h
  exact ⟨hZ3, h⟩
theorem q_count {X : S_Rows} {M : S_Model} (h : Rel X M) (x : Int32) : f_Rows_count X x = (f_Model_count M x).1 ∧ Rel X (f_Model_count M x).2 := by
  obtain ⟨nE, nC, nU, nR, hE, hC, hU, hM, hR, hL, hZ1, hZ2, hZ3, hZ4⟩ := id h
  unfold f_Rows_count f_Model_count f_Tree_size f_Checks_size f_Uses_size f_Running_size
  by_cases a0 : x = 0
  · rw [if_pos a0, if_pos a0]; exact ⟨hE.1.trans hE.2.1.symm, h⟩
  by_cases a1 : x = 1
  · rw [if_neg a0, if_neg a0, if_pos a1, if_pos a1]; exact ⟨hC.1.trans hC.2.1.symm, h⟩
  by_cases a2 : x = 2
  · rw [if_neg a0, if_neg a0, if_neg a1, if_neg a1, if_pos a2, if_pos a2]; exact ⟨hU.1.trans hU.2.1.symm, h⟩
  by_cases a3 : x = 3
  · rw [if_neg a0, if_neg a0, if_neg a1, if_neg a1, if_neg a2, if_neg a2, if_pos a3, if_pos a3]; exact ⟨hR.1.trans hR.2.1.symm, h⟩
  by_cases a4 : x = 4
  · rw [if_neg a0, if_neg a0, if_neg a1, if_neg a1, if_neg a2, if_neg a2, if_neg a3, if_neg a3, if_pos a4, if_pos a4]; exact ⟨hZ1, h⟩
  by_cases a5 : x = 5
  · rw [if_neg a0, if_neg a0, if_neg a1, if_neg a1, if_neg a2, if_neg a2, if_neg a3, if_neg a3, if_neg a4, if_neg a4, if_pos a5, if_pos a5]; exact ⟨hZ2, h⟩
  · rw [if_neg a0, if_neg a0, if_neg a1, if_neg a1, if_neg a2, if_neg a2, if_neg a3, if_neg a3, if_neg a4, if_neg a4, if_neg a5, if_neg a5]; exact ⟨rfl, h⟩
theorem q_last {X : S_Rows} {M : S_Model} (h : Rel X M) (x : Int32) : f_Rows_last X x = (f_Model_last M x).1 ∧ Rel X (f_Model_last M x).2 := by
  obtain ⟨nE, nC, nU, nR, hE, hC, hU, hM, hR, hL, hZ⟩ := id h
  unfold f_Rows_last f_Latest_tell f_Model_last
  rcases hL with ⟨l1, l2⟩ | ⟨l1, l2, l3, l4, l5, l6⟩
  · rw [if_pos l2, if_pos l1]; exact ⟨rfl, h⟩
  have l7 : ¬ M.2.2.2.2.2.2.2.2.2.2.2.2.2.2.2.2.2.2.2.2.2.2.2 = 0 := by rw [l1]; decide
  rw [if_neg l2, if_neg l7]
  by_cases a0 : x = 0
  · rw [if_pos a0, if_pos a0]; exact ⟨l3, h⟩
  by_cases a1 : x = 1
  · rw [if_neg a0, if_neg a0, if_pos a1, if_pos a1]; exact ⟨l4, h⟩
  by_cases a2 : x = 2
  · rw [if_neg a0, if_neg a0, if_neg a1, if_neg a1, if_pos a2, if_pos a2]; exact ⟨l5, h⟩
  by_cases a3 : x = 3
  · rw [if_neg a0, if_neg a0, if_neg a1, if_neg a1, if_neg a2, if_neg a2, if_pos a3, if_pos a3]; exact ⟨l6, h⟩
  · rw [if_neg a0, if_neg a0, if_neg a1, if_neg a1, if_neg a2, if_neg a2, if_neg a3, if_neg a3]; exact ⟨rfl, h⟩
theorem q_propagate {X : S_Rows} {M : S_Model} (h : Rel X M) (x : Int32) : (f_Rows_propagate X x).1 = (f_Model_propagate M x).1 ∧ Rel (f_Rows_propagate X x).2 (f_Model_propagate M x).2 := by
  obtain ⟨nE, nC, nU, nR, hE, hC, hU, hM, hR, hL, hZ⟩ := id h
  unfold f_Rows_propagate f_Latest_passTo f_Model_propagate
  by_cases q0 : x < 0
  · rw [if_pos (below_n q0), if_pos q0]; exact ⟨rfl, h⟩
  by_cases q1 : x ≤ 99
  · rw [if_neg (below_y q0 (fun z => (le_p (a := 99) rfl).mp z q1)), if_neg q0, if_pos q1]
    rcases hL with ⟨l1, l2⟩ | ⟨l1, l2, l3, l4, l5, l6⟩
    · have l3 : X.2.2.2.2.2.1.1 ≤ 0 := by rw [l2]; decide
      rw [if_pos l3, if_pos l1]; exact ⟨rfl, h⟩
    · have l7 : ¬ M.2.2.2.2.2.2.2.2.2.2.2.2.2.2.2.2.2.2.2.2.2.2.2 = 0 := by rw [l1]; decide
      rw [if_neg l7, ← l3, ← l6]
      by_cases w : X.2.2.2.2.2.1.1 < 0
      · have w2 : X.2.2.2.2.2.1.1 ≤ 0 := by rw [Int32.lt_iff_toInt_lt] at w; rw [Int32.le_iff_toInt_le]; omega
        rw [if_pos w2, if_pos w]; exact ⟨rfl, h⟩
      · have w2 : ¬ X.2.2.2.2.2.1.1 ≤ 0 := fun v => by
          rw [Int32.lt_iff_toInt_lt] at w
          rw [Int32.le_iff_toInt_le] at v
          exact l2 (Int32.toInt_inj.mp (by omega))
        rw [if_neg w2, if_neg w]
        by_cases v : X.2.2.2.2.2.1.2.2.2 = -1
        · rw [if_pos v, if_pos v]
          exact ⟨rfl, nE, nC, nU, nR, hE, hC, hU, hM, hR, Or.inr ⟨l1, l2, rfl, l4, l5, rfl⟩, hZ⟩
        · rw [if_neg v, if_neg v]; exact ⟨rfl, h⟩
  · rw [if_pos (below_h ((le_p (a := 99) rfl).mpr q1)), if_neg q0, if_neg q1]; exact ⟨rfl, h⟩
