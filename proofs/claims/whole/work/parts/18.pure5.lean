theorem lastL_spec (lv : Nat → Int32) (y : Int32) : ∀ n : Nat, ∃ a : Nat, a ≤ n ∧ lastL lv n y = nI a ∧ (a = 0 ∨ (1 ≤ a ∧ lv a = y)) := by
  intro n
  induction n with
  | zero => exact ⟨0, by omega, rfl, Or.inl rfl⟩
  | succ n ih =>
    rw [lastL]
    by_cases h : lv (n + 1) = y
    · rw [if_pos h]; exact ⟨n + 1, by omega, rfl, Or.inr ⟨by omega, h⟩⟩
    · rw [if_neg h]
      obtain ⟨a, h1, h2, h3⟩ := ih
      exact ⟨a, by omega, h2, h3⟩
theorem lastL_congr {lv lw : Nat → Int32} {y : Int32} : ∀ n : Nat, (∀ i, 1 ≤ i → i ≤ n → lv i = lw i) → lastL lv n y = lastL lw n y := by
  intro n
  induction n with
  | zero => intro _; rfl
  | succ n ih =>
    intro h
    rw [lastL, lastL, h (n + 1) (by omega) (by omega), ih (fun i a b => h i a (by omega))]
theorem excL {S : S_Model} {n : Nat} (hn : S.2.1 = nI n) (hn60 : n ≤ 60) (x1 x2 : Int32) : ∀ (r k j : Nat), 1 ≤ j → j + r = n + 1 → r < k → f_Model_exception_L33 S x1 x2 k (lastL S.2.2.2.2.2.2.2.2.1 (j - 1) (x1 - 1)) (nI j) = f_Model_exception_L33 S x1 x2 1 (lastL S.2.2.2.2.2.2.2.2.1 n (x1 - 1)) (nI (n + 1)) := by
  intro r
  induction r with
  | zero =>
    intro k j h0 h1 h2
    obtain ⟨k, rfl⟩ : ∃ q, k = q + 1 := ⟨k - 1, by omega⟩
    obtain rfl : j = n + 1 := by omega
    have c : S.2.1 < nI (n + 1) := by rw [hn]; exact nI_lt (by omega) (by omega)
    rw [f_Model_exception_L33, f_Model_exception_L33, if_pos c, if_pos c, Nat.add_sub_cancel]
  | succ r ih =>
    intro k j h0 h1 h2
    obtain ⟨k, rfl⟩ : ∃ q, k = q + 1 := ⟨k - 1, by omega⟩
    have c : ¬ S.2.1 < nI j := by rw [hn]; exact nI_nlt (by omega) (by omega)
    have e := ih k (j + 1) (by omega) (by omega) (by omega)
    rw [← e]
    obtain ⟨i, rfl⟩ : ∃ q, j = q + 1 := ⟨j - 1, by omega⟩
    rw [f_Model_exception_L33, if_neg c, nI_clamp (by omega), nI_1, Nat.add_sub_cancel, Nat.add_sub_cancel, lastL]
    by_cases q : S.2.2.2.2.2.2.2.2.1 (i + 1) = x1 - 1
    · rw [if_pos q, if_pos q]
    · rw [if_neg q, if_neg q]
theorem excX {S : S_Model} {n : Nat} (hn : S.2.1 = nI n) (x1 x2 acc : Int32) (hn60 : n ≤ 60) : f_Model_exception_L33 S x1 x2 1 acc (nI (n + 1)) = if x1 ≤ 1 then (if S.2.1 = 60 then (-1, (0, S.2)) else (S.2.1 + 1, (0, S.2.1 + 1, S.2.2.1, S.2.2.2.1, S.2.2.2.2.1, S.2.2.2.2.2.1, S.2.2.2.2.2.2.1, S.2.2.2.2.2.2.2.1, upd S.2.2.2.2.2.2.2.2.1 (S.2.1 + 1).toNatClampNeg x1, upd S.2.2.2.2.2.2.2.2.2.1 (S.2.1 + 1).toNatClampNeg x2, upd S.2.2.2.2.2.2.2.2.2.2.1 (S.2.1 + 1).toNatClampNeg acc, S.2.2.2.2.2.2.2.2.2.2.2))) else (if acc = 0 then (-2, (0, S.2)) else (if S.2.1 = 60 then (-1, (0, S.2)) else (S.2.1 + 1, (0, S.2.1 + 1, S.2.2.1, S.2.2.2.1, S.2.2.2.2.1, S.2.2.2.2.2.1, S.2.2.2.2.2.2.1, S.2.2.2.2.2.2.2.1, upd S.2.2.2.2.2.2.2.2.1 (S.2.1 + 1).toNatClampNeg x1, upd S.2.2.2.2.2.2.2.2.2.1 (S.2.1 + 1).toNatClampNeg x2, upd S.2.2.2.2.2.2.2.2.2.2.1 (S.2.1 + 1).toNatClampNeg acc, S.2.2.2.2.2.2.2.2.2.2.2)))) := by
  have c : S.2.1 < nI (n + 1) := by rw [hn]; exact nI_lt (by omega) (by omega)
  rw [f_Model_exception_L33, if_pos c]
theorem lat_eq {T : S_Tree} {ex : Int32} {lv nm ab : Nat → Int32} {n : Nat} (h : RelE T ex lv nm ab n) {d : Nat} (d1 : 1 ≤ d) (d3 : d ≤ 3) (T' : S_Tree) (hT : T'.2.2.1 = T.2.2.1) : f_Tree_latestOf T' (nI d - 1) = lastL lv n (nI d - 1) := by
  obtain ⟨g1, g2, g3, g4, g5, g6, g7, g8, g9⟩ := h
  unfold f_Tree_latestOf
  rw [hT]
  rcases (show d = 1 ∨ d = 2 ∨ d = 3 by omega) with e | e | e
  · subst e
    have z : nI 1 - 1 = 0 := rfl
    rw [z, if_pos (show (0 : Int32) < 1 by decide)]
    obtain ⟨a, a1, a2, a3⟩ := lastL_spec lv 0 n
    rcases a3 with a3 | ⟨a3, a4⟩
    · rw [a2, a3]; rfl
    · obtain ⟨dd, e1, e2, e3, -⟩ := g6 a a3 a1
      rw [e3] at a4
      exact absurd a4 (nI_ne0 (by omega) (by omega))
  · subst e
    have z : nI 2 - 1 = 1 := rfl
    rw [z, if_neg (show ¬ (1 : Int32) < 1 by decide), if_neg (show ¬ (4 : Int32) ≤ 1 by decide)]
    exact g7
  · subst e
    have z : nI 3 - 1 = 2 := rfl
    rw [z, if_neg (show ¬ (2 : Int32) < 1 by decide), if_neg (show ¬ (4 : Int32) ≤ 2 by decide)]
    exact g8
theorem addE {T : S_Tree} {ex : Int32} {lv nm ab : Nat → Int32} {n : Nat} (h : RelE T ex lv nm ab n) {d : Nat} (d1 : 1 ≤ d) (d3 : d ≤ 3) (x2 : Int32) (ha : 2 ≤ d → ¬ lastL lv n (nI d - 1) = 0) : (ex = 60 → f_Tree_add T (nI d) x2 = (-1, T)) ∧ (¬ ex = 60 → (f_Tree_add T (nI d) x2).1 = ex + 1 ∧ RelE (f_Tree_add T (nI d) x2).2 (ex + 1) (upd lv (ex + 1).toNatClampNeg (nI d)) (upd nm (ex + 1).toNatClampNeg x2) (upd ab (ex + 1).toNatClampNeg (lastL lv n (nI d - 1))) (n + 1)) := by
  have hl := fun T' hT => lat_eq h d1 d3 T' hT
  obtain ⟨g1, g2, g3, g4, g5, g6, g7, g8, g9⟩ := h
  unfold f_Tree_add
  constructor
  · intro q
    have q2 : n = 60 := (nI_eq (by omega) (by decide)).mp (g2.symm.trans (q.trans rfl))
    rw [g1, q2, if_pos (show (61 : Int32) ≤ nI 60 + 1 by decide)]
  · intro q
    have q2 : n ≠ 60 := fun z => q (by rw [g2, z]; rfl)
    have c1 : ¬ (61 : Int32) ≤ nI (n + 1) := by rw [show (61 : Int32) = nI 61 from rfl, nI_leI (by decide) (by omega)]; omega
    have c2 : ¬ nI d < 1 := by rw [show (1 : Int32) = nI 1 from rfl, nI_ltI (by omega) (by decide)]; omega
    have c3 : nI d < 4 := by rw [show (4 : Int32) = nI 4 from rfl]; exact nI_lt (by omega) (by decide)
    rw [g1, g2, nI_1, if_neg c1, if_neg c2, if_pos c3, nI_clamp (by omega), nI_clamp (by omega), hl (upd T.1 (n + 1) x2, T.2) rfl]
    obtain ⟨a, a1, a2, a3⟩ := lastL_spec lv (nI d - 1) n
    refine ⟨rfl, rfl, rfl, by omega, fun i i1 i2 => ?_, fun i i1 i2 => ?_, fun i i1 i2 => ?_, ?_, ?_, ?_⟩
    · by_cases e : i = n + 1
      · subst e
        exact ⟨by show upd T.1 (n + 1) x2 (n + 1) = upd nm (n + 1) x2 (n + 1); rw [pk_us, pk_us], by show upd T.2.1 (n + 1) _ (n + 1) = upd ab (n + 1) _ (n + 1); rw [pk_us, pk_us]⟩
      · exact ⟨by show upd T.1 (n + 1) x2 i = upd nm (n + 1) x2 i; rw [pk_un e, pk_un e]; exact (g4 i i1 (by omega)).1, by show upd T.2.1 (n + 1) _ i = upd ab (n + 1) _ i; rw [pk_un e, pk_un e]; exact (g4 i i1 (by omega)).2⟩
    · by_cases e : i = n + 1
      · subst e
        exact ⟨a, by omega, by rw [pk_us]; exact a2⟩
      · rw [pk_un e]; exact g5 i i1 i2
    · by_cases e : i = n + 1
      · subst e
        refine ⟨d, d1, d3, pk_us, ?_⟩
        obtain ⟨d, rfl⟩ : ∃ q, d = q + 1 := ⟨d - 1, by omega⟩
        refine ⟨by omega, by omega, a, by rw [pk_us]; exact a2, by omega, ?_⟩
        rcases Nat.eq_zero_or_pos d with z | z
        · subst z
          rcases a3 with a3 | ⟨a3, a4⟩
          · exact a3
          · exfalso
            obtain ⟨dd, e1, e2, e3, -⟩ := g6 a a3 a1
            have zz : nI (0 + 1) - 1 = 0 := rfl
            rw [e3, zz] at a4
            exact nI_ne0 (by omega) (by omega) a4
        · rcases a3 with a3 | ⟨a3, a4⟩
          · exact absurd (by rw [a2, a3]; rfl) (ha (by omega))
          · obtain ⟨dd, e1, e2, e3, e4⟩ := g6 a a3 a1
            have zz : nI (d + 1) - 1 = nI d := nI_pred d
            rw [e3, zz] at a4
            have dd2 : dd = d := (nI_eq (by omega) (by omega)).mp a4
            rw [dd2] at e4
            exact LevN_mono d a e4
      · obtain ⟨dd, e1, e2, e3, e4⟩ := g6 i i1 (by omega)
        exact ⟨dd, e1, e2, by rw [pk_un e]; exact e3, LevN_mono dd i e4⟩
    · show upd T.2.2.1 d (nI (n + 1)) 1 = lastL (upd lv (n + 1) (nI d)) (n + 1) 1
      rw [lastL, pk_us, lastL_congr (lw := lv) n (fun i _ i2 => pk_un (by omega))]
      by_cases e : d = 1
      · subst e; rw [pk_us, if_pos (show nI 1 = 1 from rfl)]
      · rw [pk_un (by omega), if_neg (show ¬ nI d = 1 from fun z => e ((nI_eq (b := 1) (by omega) (by decide)).mp z))]; exact g7
    · show upd T.2.2.1 d (nI (n + 1)) 2 = lastL (upd lv (n + 1) (nI d)) (n + 1) 2
      rw [lastL, pk_us, lastL_congr (lw := lv) n (fun i _ i2 => pk_un (by omega))]
      by_cases e : d = 2
      · subst e; rw [pk_us, if_pos (show nI 2 = 2 from rfl)]
      · rw [pk_un (by omega), if_neg (show ¬ nI d = 2 from fun z => e ((nI_eq (b := 2) (by omega) (by decide)).mp z))]; exact g8
    · show upd T.2.2.1 d (nI (n + 1)) 3 = lastL (upd lv (n + 1) (nI d)) (n + 1) 3
      rw [lastL, pk_us, lastL_congr (lw := lv) n (fun i _ i2 => pk_un (by omega))]
      by_cases e : d = 3
      · subst e; rw [pk_us, if_pos (show nI 3 = 3 from rfl)]
      · rw [pk_un (by omega), if_neg (show ¬ nI d = 3 from fun z => e ((nI_eq (b := 3) (by omega) (by decide)).mp z))]; exact g9
theorem exc_tail {X : S_Rows} {M : S_Model} (h : Rel X M) {nE d : Nat} (hE : RelE X.1 M.2.1 M.2.2.2.2.2.2.2.2.1 M.2.2.2.2.2.2.2.2.2.1 M.2.2.2.2.2.2.2.2.2.2.1 nE) (d1 : 1 ≤ d) (d3 : d ≤ 3) (x2 a : Int32) (ea : a = lastL M.2.2.2.2.2.2.2.2.1 nE (nI d - 1)) (ha : 2 ≤ d → ¬ a = 0) : (f_Tree_add X.1 (nI d) x2).1 = (if M.2.1 = 60 then (-1, (0, M.2)) else (M.2.1 + 1, (0, M.2.1 + 1, M.2.2.1, M.2.2.2.1, M.2.2.2.2.1, M.2.2.2.2.2.1, M.2.2.2.2.2.2.1, M.2.2.2.2.2.2.2.1, upd M.2.2.2.2.2.2.2.2.1 (M.2.1 + 1).toNatClampNeg (nI d), upd M.2.2.2.2.2.2.2.2.2.1 (M.2.1 + 1).toNatClampNeg x2, upd M.2.2.2.2.2.2.2.2.2.2.1 (M.2.1 + 1).toNatClampNeg a, M.2.2.2.2.2.2.2.2.2.2.2)) : Int32 × S_Model).1 ∧ Rel ((f_Tree_add X.1 (nI d) x2).2, X.2) (if M.2.1 = 60 then (-1, (0, M.2)) else (M.2.1 + 1, (0, M.2.1 + 1, M.2.2.1, M.2.2.2.1, M.2.2.2.2.1, M.2.2.2.2.2.1, M.2.2.2.2.2.2.1, M.2.2.2.2.2.2.2.1, upd M.2.2.2.2.2.2.2.2.1 (M.2.1 + 1).toNatClampNeg (nI d), upd M.2.2.2.2.2.2.2.2.2.1 (M.2.1 + 1).toNatClampNeg x2, upd M.2.2.2.2.2.2.2.2.2.2.1 (M.2.1 + 1).toNatClampNeg a, M.2.2.2.2.2.2.2.2.2.2.2)) : Int32 × S_Model).2 := by
  obtain ⟨_, nC, nU, nR, -, hC, hU, hM, hR, hL, hZ⟩ := id h
  subst ea
  obtain ⟨u1, u2⟩ := addE hE d1 d3 x2 ha
  by_cases q : M.2.1 = 60
  · rw [if_pos q, u1 q]
    exact ⟨rfl, nE, nC, nU, nR, hE, hC, hU, hM, hR, hL, hZ⟩
  · rw [if_neg q]
    exact ⟨(u2 q).1, nE + 1, nC, nU, nR, (u2 q).2, hC, hU, hM, hR, hL, hZ⟩
theorem q_exception {X : S_Rows} {M : S_Model} (h : Rel X M) (x1 x2 : Int32) : (f_Rows_exception X x1 x2).1 = (f_Model_exception M x1 x2).1 ∧ Rel (f_Rows_exception X x1 x2).2 (f_Model_exception M x1 x2).2 := by
  obtain ⟨nE, nC, nU, nR, hE, -⟩ := id h
  have hn60 := hE.2.2.1
  unfold f_Rows_exception f_Model_exception
  by_cases q0 : x1 < 1
  · rw [if_pos q0, if_pos q0]; exact ⟨rfl, h⟩
  by_cases q1 : 3 < x1
  · rw [if_neg q0, if_neg q0, if_pos q1, if_pos q1]; exact ⟨rfl, h⟩
  rw [if_neg q0, if_neg q0, if_neg q1, if_neg q1]
  by_cases q2 : x2 < 0
  · rw [if_pos (below_n q2), if_pos q2]; exact ⟨rfl, h⟩
  by_cases q3 : x2 ≤ 99
  · rw [if_neg (below_y q2 (fun z => (le_p (a := 99) rfl).mp z q3)), if_neg q2, if_pos q3]
    obtain ⟨d, hd, hx⟩ := nI_of (nn_of1 q0)
    have d1 : 1 ≤ d := by
      rw [hx, show (1 : Int32) = nI 1 from rfl, nI_ltI hd (by decide)] at q0
      omega
    have d3 : d ≤ 3 := by
      rw [hx, show (3 : Int32) = nI 3 from rfl, nI_ltI (by decide) hd] at q1
      omega
    subst hx
    have e0 := excL (S := M) hE.2.1 hn60 (nI d) x2 nE 62 1 (by omega) (by omega) (by omega)
    have e1 : f_Model_exception_L33 M (nI d) x2 62 0 1 = f_Model_exception_L33 M (nI d) x2 1 (lastL M.2.2.2.2.2.2.2.2.1 nE (nI d - 1)) (nI (nE + 1)) := e0
    rw [e1, excX (S := M) hE.2.1 (nI d) x2 _ hn60, lat_eq hE d1 d3 X.1 rfl]
    by_cases z : nI d ≤ 1
    · rw [if_pos z, if_pos z]
      have z2 : ¬ 2 ≤ d := by
        rw [show (1 : Int32) = nI 1 from rfl, nI_leI hd (by decide)] at z
        omega
      exact exc_tail h hE d1 d3 x2 _ rfl (fun w => absurd w z2)
    · rw [if_neg z, if_neg z]
      by_cases w : lastL M.2.2.2.2.2.2.2.2.1 nE (nI d - 1) = 0
      · rw [if_pos w, if_pos w]; exact ⟨rfl, h⟩
      · rw [if_neg w, if_neg w]
        exact exc_tail h hE d1 d3 x2 _ rfl (fun _ => w)
  · rw [if_pos (below_h ((le_p (a := 99) rfl).mpr q3)), if_neg q2, if_neg q3]; exact ⟨rfl, h⟩
/-! the law's numbers -/
theorem law_in0 {x3 : Int32} {j L : Nat} (hj : x3 = nI (4 * j)) (hb4 : 4 * j + 4 ≤ L) (hL : L ≤ 2048) : vp_in x3 L := by rw [hj]; exact vp_in_nI (by omega) (by omega)
theorem law_in {x3 D : Int32} {j L d : Nat} (hj : x3 = nI (4 * j)) (hb4 : 4 * j + 4 ≤ L) (hL : L ≤ 2048) (hD : D = nI d) (hd : d < 4) : vp_in (x3 + D) L := by rw [hj, hD, nI_add]; exact vp_in_nI (by omega) (by omega)
theorem law_next {x3 : Int32} {j : Nat} (hj : x3 = nI (4 * j)) : x3 + 4 = nI (4 * (j + 1)) := by rw [hj, show (4 : Int32) = nI 4 from rfl, nI_add]; rfl
theorem law_lt {x3 : Int32} {j L : Nat} (hj : x3 = nI (4 * j)) (hjL : 4 * j ≤ L) (hL : L ≤ 2048) (c : ¬ Int32.ofNat L - 4 < x3) : 4 * j + 4 ≤ L := by
  have e : (Int32.ofNat L - 4).toInt = (L : Int) - 4 := pk_sub_toInt (a := L) (b := 4) (by omega) (by decide)
  rw [Int32.lt_iff_toInt_lt, e, hj, nI_toInt (by omega)] at c
  omega
