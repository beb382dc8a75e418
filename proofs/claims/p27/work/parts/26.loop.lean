section
variable {x x' : xS} {s : z_row} {m : Nat} {sv : Nat → z_row} {kp : Nat → Bool} {sl : Nat → z_row} {len : Nat} {tx : Nat → Int32}
theorem zw_fr (h : ∀ i, i < 101 → x'.1 i = x.1 i) (R : z_RelC x s m sv kp sl len tx) : z_RelC x' s m sv kp sl len tx :=
  ⟨z_House_fr (by omega) (fun i a b => h i (by omega)) R.1, z_RS_fr (fun i a => h i (by omega)) R.2.1, z_RK_fr (fun i a => h i (by omega)) R.2.2.1, z_RT_fr (fun i a => h i (by omega)) R.2.2.2⟩
theorem zw_sg1 {i : Nat} (h : i < 101) : sg i = i + 101 := if_pos h
theorem zw_sg2 {i : Nat} (h1 : 101 ≤ i) (h2 : i < 202) : sg i = i - 101 := by unfold sg; rw [if_neg (by omega), if_pos h2]
/-- what is done to the one object doesn't touch the other -/
theorem zw_other (F : z_FrC x x') (R : z_RelC (sw x) s m sv kp sl len tx) : z_RelC (sw x') s m sv kp sl len tx :=
  zw_fr (fun i hi => by show x'.1 (sg i) = x.1 (sg i); rw [zw_sg1 hi]; exact F.2 _ (by omega)) R
theorem zw_up (v : Int32) (R : z_RelC x s m sv kp sl len tx) : z_RelC (up1 x 202 (0 : Int32).toNatClampNeg v) s m sv kp sl len tx :=
  zw_fr (fun i hi => z_up1_o x _ v (by omega)) R
theorem zw_up2 (v : Int32) (R : z_RelC (sw x) s m sv kp sl len tx) : z_RelC (sw (up1 x 202 (0 : Int32).toNatClampNeg v)) s m sv kp sl len tx :=
  zw_fr (fun i hi => by show (up1 x 202 _ v).1 (sg i) = x.1 (sg i); rw [zw_sg1 hi]; exact z_up1_o x _ v (by omega)) R
theorem zw_at (x : xS) (v : Int32) : (up1 x 202 (0 : Int32).toNatClampNeg v).1 202 (0 : Int32).toNatClampNeg = v := by rw [z_up1_at, if_pos ⟨rfl, rfl⟩]
end
def zw_R (x : xS) (s : z_row) : Prop := ∃ (m : Nat) (sv : Nat → z_row) (kp : Nat → Bool) (sl : Nat → z_row) (len : Nat) (tx : Nat → Int32), z_RelC x s m sv kp sl len tx
def zw_Inv (T : Nat) (x : xS) : Prop := ∃ s, z_OKs s ∧ zi_J T s ∧ zw_R x s ∧ zw_R (sw x) s
theorem zw_al {x : xS} {s : z_row} (O : z_OKs s) (R : zw_R x s) (R' : zw_R (sw x) s) : fL_areAlike 0 x = some 1 := by
  obtain ⟨_, _, _, _, _, _, R⟩ := R
  obtain ⟨_, _, _, _, _, _, R'⟩ := R'
  exact zl_alike R R' O
theorem zw_cell (L : Nat) (xs : Nat → Int32) {j : Nat} (hL : L ≤ 260) (hj : j < 1000) (x : xS) : ∃ v, fL_cell L xs (z_I j) x = some v := by
  unfold fL_cell
  rw [show Int32.ofNat L = z_I L from rfl]
  by_cases c : z_I L ≤ z_I j
  · exact ⟨_, if_pos c⟩
  · rw [z_I_le (by omega) (by omega)] at c
    refine ⟨xs (z_I j).toNatClampNeg, ?_⟩
    rw [if_neg (by rw [z_I_le (by omega) (by omega)]; exact c), if_neg]
    rw [z_I_nat (by omega)]
    intro h
    rcases h with h | h
    · rw [z_I_nn (by omega)] at h; exact h
    · exact c h
/-- the end of a turn: what is looked at -/
theorem zw_b178 {K : Int32 → xS → Option Int32} {L : Nat} {xs : Nat → Int32} {j T : Nat} (hj : j < 1000) (hT : T ≤ 100000) (v : Int32) {y : xS} {s : z_row} (O : z_OKs s) (J : zi_J T s) (R : zw_R y s) (R' : zw_R (sw y) s) :
    ∃ y', fL_law_b178 K L xs (z_I j) v y = K (z_I (j + 1)) y' ∧ zw_Inv T y' := by
  unfold fL_law_b178
  rw [zw_al O R R', z_ob, if_neg (by decide), zl_low _ (show ¬ (12 : Int32) = 0 by decide), z_ob]
  obtain ⟨f, hf, ef⟩ := zl_lv_I (v >>> ((8 : Int32) &&& 31)) (n := 12) (by omega) (by omega)
  rw [show zl_lv (v >>> ((8 : Int32) &&& 31)) 12 = z_I f from ef]
  have main : ∀ g : Nat, 1 ≤ g → g ≤ 9 → f + g ≤ 12 → ∃ y', fL_law_b226 K L xs (z_I j) v (z_I f) 1 (v >>> ((11 : Int32) &&& 31)) (z_I g) y = K (z_I (j + 1)) y' ∧ zw_Inv T y' := by
    intro g g1 g9 gf
    unfold fL_law_b226
    rw [zl_low _ (show ¬ z_I g = 0 by rw [z_L0, z_I_eq (by omega) (by omega)]; omega), z_ob]
    obtain ⟨a, ha, ea⟩ := zl_lv_I (v >>> ((11 : Int32) &&& 31)) g1 (show g < 1000 by omega)
    rw [ea, z_lt_, show (1 : Int32) + z_I a = z_I (1 + a) by rw [z_L1, z_I_add]]
    by_cases c : (z_I j - z_I j / (2 : Int32) * (2 : Int32)) = 1
    · rw [if_pos c]
      obtain ⟨m, sv, kp, sl, len, tx, R⟩ := R
      obtain ⟨m', sv', kp', sl', len', tx', R'⟩ := R'
      obtain ⟨y1, e1, R1, F1⟩ := zs_sums R O hT J
      rw [e1, z_ob, if_neg (show ¬ (1 : Int32) = 0 by decide)]
      have R1' := zw_other F1 R'
      have t269 : ∀ s2 : Int32, ∀ q : Nat, s2 = z_I q → 1 ≤ q → q ≤ 10 → ∃ y', fL_law_b269 K L xs (z_I j) v (z_I f) (z_I (1 + a)) (v >>> ((6 : Int32) &&& 31)) s2 y1 = K (z_I (j + 1)) y' ∧ zw_Inv T y' := by
        intro s2 q hq q1 q10
        subst hq
        unfold fL_law_b269
        rw [zl_low _ (show ¬ z_I q = 0 by rw [z_L0, z_I_eq (by omega) (by omega)]; omega), z_ob]
        obtain ⟨l, hl, el⟩ := zl_lv_I (v >>> ((6 : Int32) &&& 31)) q1 (show q < 1000 by omega)
        obtain ⟨y2, m2, sv2, e2, R2, F2⟩ := zt_asking R1 R1.2.1.choose_spec.2.2.2.1 O hT J (l := l) (f := f) (n := 1 + a) (by omega) hf (by omega) (by omega) (by omega)
        rw [el, e2, z_ob, if_neg (show ¬ (1 : Int32) = 0 by decide)]
        dsimp only
        have R2' := zw_other F2 R1'
        obtain ⟨l3, hl3, el3⟩ := zl_lv_I (v >>> ((7 : Int32) &&& 31)) (n := 10) (by omega) (by omega)
        obtain ⟨f3, hf3, ef3⟩ := zl_lv_I (v >>> ((10 : Int32) &&& 31)) (n := 12) (by omega) (by omega)
        rw [zl_low _ (show ¬ (10 : Int32) = 0 by decide), z_ob, zl_low _ (show ¬ (12 : Int32) = 0 by decide), z_ob, show zl_lv (v >>> ((7 : Int32) &&& 31)) 10 = z_I l3 from el3, show zl_lv (v >>> ((10 : Int32) &&& 31)) 12 = z_I f3 from ef3, zg_longest R2 hl3 hf3, z_ob, if_neg (by decide), zl_alike R2 R2' O, z_ob, if_neg (by decide)]
        unfold fL_law_b319
        rw [z_I_s]
        exact ⟨y2, rfl, s, O, J, ⟨m2, sv2, kp, sl, len, tx, R2⟩, ⟨m', sv', kp', sl', len', tx', R2'⟩⟩
      by_cases c2 : ((v >>> ((20 : Int32) &&& 31)) &&& 1) = 0
      · rw [if_pos c2]
        exact t269 _ 10 rfl (by omega) (by omega)
      · rw [if_neg c2]
        exact t269 _ 3 rfl (by omega) (by omega)
    · rw [if_neg c]
      unfold fL_law_b319
      rw [z_I_s]
      exact ⟨y, rfl, s, O, J, R, R'⟩
  rw [show (12 : Int32) - z_I f = z_I (12 - f) by rw [z_L12, z_I_sub (by omega)]]
  by_cases c : (9 : Int32) ≤ z_I (12 - f)
  · rw [if_pos c]
    rw [z_L9, z_I_le (by omega) (by omega)] at c
    exact main 9 (by omega) (by omega) (by omega)
  · rw [if_neg c]
    rw [z_L9, z_I_le (by omega) (by omega)] at c
    exact main (12 - f) (by omega) (by omega) (by omega)
/-- the other object does the act too -/
theorem zw_b153 {K : Int32 → xS → Option Int32} {L : Nat} {xs : Nat → Int32} {j T : Nat} (hj : j < 1000) (hT : T ≤ 100000) (v : Int32) {y : xS} {s s' : z_row} {k r : Int32} (hk : k = 0) (O' : z_OKs s') (J' : zi_J T s') (R : zw_R y s') (R' : zw_R (sw y) s)
    (H : ∀ (x : xS) (m : Nat) (sv : Nat → z_row) (kp : Nat → Bool) (sl : Nat → z_row) (len : Nat) (tx : Nat → Int32), z_RelC x s m sv kp sl len tx → ∃ x', fL_act 0 v 202 x = some (0, up1 x' 202 (0 : Int32).toNatClampNeg r) ∧ z_RelC x' s' (z_nM m) (z_nV m sv s) kp sl len tx ∧ z_FrC x x') :
    ∃ y', fL_law_b153 K L xs (z_I j) v 0 r y = K (z_I (j + 1)) y' ∧ zw_Inv T y' := by
  obtain ⟨m, sv, kp, sl, len, tx, R⟩ := R
  obtain ⟨m', sv', kp', sl', len', tx', R'⟩ := R'
  obtain ⟨z, ez, Rz, Fz⟩ := H (sw y) m' sv' kp' sl' len' tx' R'
  unfold fL_law_b153
  rw [ez, z_ob, if_pos rfl, if_pos rfl, zl_g202]
  have eat : (sw (up1 z 202 (0 : Int32).toNatClampNeg r)).1 202 (0 : Int32).toNatClampNeg = r := by
    show (up1 z 202 (0 : Int32).toNatClampNeg r).1 (sg 202) (0 : Int32).toNatClampNeg = r
    rw [show sg 202 = 202 from rfl]
    exact zw_at z r
  rw [if_pos eat]
  refine zw_b178 hj hT v O' J' ⟨m, sv, kp, sl, len, tx, ?_⟩ ⟨z_nM m', z_nV m' sv' s, kp', sl', len', tx', ?_⟩
  · refine zw_fr (fun i hi => ?_) R
    show (up1 z 202 (0 : Int32).toNatClampNeg r).1 (sg i) = y.1 i
    rw [zw_sg1 hi, z_up1_o z _ r (by omega), Fz.2 _ (by omega)]
    show y.1 (sg (i + 101)) = y.1 i
    rw [zw_sg2 (by omega) (by omega), Nat.add_sub_cancel]
  · rw [sw_sw]
    exact zw_up r Rz
theorem zw_step {L : Nat} {xs : Nat → Int32} (hL : L ≤ 260) {j n T : Nat} (hj : j < 60) (hT : T ≤ 1000) {x : xS} (h : zw_Inv T x) : ∃ x', fL_law_b23 L xs (n + 1) (z_I j) x = fL_law_b23 L xs n (z_I (j + 1)) x' ∧ zw_Inv (T + 1) x' := by
  obtain ⟨s, O, J, ⟨m, sv, kp, sl, len, tx, R⟩, ⟨m', sv', kp', sl', len', tx', R'⟩⟩ := h
  obtain ⟨v, ev⟩ := zw_cell L xs hL (show j < 1000 by omega) x
  have c11 : fpX6_count 0 11 x = some (z_I m) := zp_count R (k := 11) (by omega)
  have hm6 : m ≤ 6 := R.2.1.choose_spec.2.2.2.1
  obtain ⟨k, r, s', O', J', H⟩ := zl_act O v
  rw [fL_law_b23, if_neg (by rw [show (60 : Int32) = z_I 60 from rfl, z_I_le (by omega) (by omega)]; omega), ev, z_ob, c11, z_ob]
  by_cases hk : k = 0
  · have H0 : ∀ (x : xS) (m : Nat) (sv : Nat → z_row) (kp : Nat → Bool) (sl : Nat → z_row) (len : Nat) (tx : Nat → Int32), z_RelC x s m sv kp sl len tx → ∃ x', fL_act 0 v 202 x = some (0, up1 x' 202 (0 : Int32).toNatClampNeg r) ∧ z_RelC x' s' (z_nM m) (z_nV m sv s) kp sl len tx ∧ z_FrC x x' := fun x m sv kp sl len tx R => (H x m sv kp sl len tx R).2 hk
    obtain ⟨x1, e1, R1, F1⟩ := H0 x m sv kp sl len tx R
    have R1' := zw_other F1 R'
    rw [e1, z_ob, zl_g202, z_lt_, if_pos rfl]
    rw [show (0, up1 x1 202 (0 : Int32).toNatClampNeg r).2.1 202 (0 : Int32).toNatClampNeg = r from zw_at x1 r]
    unfold fL_law_b86
    rw [if_pos rfl]
    by_cases c9 : ((v >>> ((9 : Int32) &&& 31)) &&& 1) = 0
    · rw [if_pos c9]
      obtain ⟨m1, em, esv, em1⟩ := zt_top m sv s hm6
      have Ru := zw_up r R1
      rw [em] at Ru
      obtain ⟨x2, e2, R2, F2⟩ := zp_undo Ru
      rw [esv] at R2
      have R2' := zw_other F2 (zw_up2 r R1')
      dsimp only
      rw [e2, z_ob]
      have t122 : ∀ s1 : Int32, s1 = z_I m1 → ∃ x', fL_law_b122 (fL_law_b23 L xs n) L xs (z_I j) v 0 r (z_I m1) s1 x2 = fL_law_b23 L xs n (z_I (j + 1)) x' ∧ zw_Inv (T + 1) x' := by
        intro s1 hs
        subst hs
        unfold fL_law_b122
        rw [if_pos rfl, zl_alike R2 R2' O, z_ob, if_neg (by decide)]
        obtain ⟨x3, e3, R3, F3⟩ := H0 x2 m1 _ kp sl len tx R2
        rw [e3, z_ob, if_pos rfl, zl_g202, if_pos (zw_at x3 r)]
        exact zw_b153 (by omega) (by omega) v hk O' (J' T J) ⟨_, _, _, _, _, _, zw_up r R3⟩ ⟨_, _, _, _, _, _, zw_up2 r (zw_other F3 R2')⟩ H0
      dsimp only
      by_cases c6 : m = 6
      · rw [if_pos (by rw [c6]; rfl)]
        exact t122 5 (by rw [em1, if_pos c6]; rfl)
      · rw [if_neg (by rw [z_L6, z_I_eq (by omega) (by omega)]; exact c6)]
        exact t122 (z_I m) (by rw [em1, if_neg c6])
    · rw [if_neg c9]
      exact zw_b153 (by omega) (by omega) v hk O' (J' T J) ⟨_, _, _, _, _, _, zw_up r R1⟩ ⟨_, _, _, _, _, _, zw_up2 r R1'⟩ H0
  · have e1 : fL_act 0 v 202 x = some (k, x) := (H x m sv kp sl len tx R).1 hk
    have e2 : fL_act 0 v 202 (sw x) = some (k, sw x) := (H (sw x) m' sv' kp' sl' len' tx' R').1 hk
    rw [e1, z_ob, zl_g202, z_lt_, if_neg hk]
    dsimp only
    rw [zl_alike R R' O, z_ob, if_neg (by decide), c11, z_ob, if_pos rfl]
    unfold fL_law_b86
    rw [if_neg hk]
    unfold fL_law_b153
    rw [e2, z_ob, if_pos rfl, if_neg hk]
    dsimp only
    rw [sw_sw]
    exact zw_b178 (by omega) (by omega) v O (zi_mono J) ⟨_, _, _, _, _, _, R⟩ ⟨_, _, _, _, _, _, R'⟩
theorem zw_loop {L : Nat} {xs : Nat → Int32} (hL : L ≤ 260) : ∀ d n j x, j + d = 60 → d < n → zw_Inv j x → fL_law_b23 L xs n (z_I j) x = some 1 := by
  intro d
  induction d with
  | zero =>
    intro n j x hj hn h
    obtain ⟨n, rfl⟩ : ∃ k, n = k + 1 := ⟨n - 1, by omega⟩
    obtain ⟨s, O, J, ⟨m, sv, kp, sl, len, tx, R⟩, -⟩ := h
    obtain ⟨y, e, -, -⟩ := zs_sums R O (show j ≤ 100000 by omega) J
    rw [fL_law_b23, if_pos (by rw [show (60 : Int32) = z_I 60 from rfl, z_I_le (by omega) (by omega)]; omega), e, z_ob]
  | succ d ih =>
    intro n j x hj hn h
    obtain ⟨n, rfl⟩ : ∃ k, n = k + 1 := ⟨n - 1, by omega⟩
    obtain ⟨x', e, h'⟩ := zw_step (xs := xs) (n := n) hL (show j < 60 by omega) (show j ≤ 1000 by omega) h
    rw [e]
    exact ih n (j + 1) x' (by omega) (by omega) h'
theorem zw_init1 {x : xS} (h5 : x.1 0 5 = 0) (h6 : x.1 0 6 = 0) (h13 : ∀ j, j < 2 → x.1 13 j = 0) (h99 : x.1 99 1 = 0) (hH : ∀ k, k < 120 → x.1 (z_pr k) (z_pq k) = z_s00 k) (h83 : x.1 8 3 = 0) (h85 : x.1 8 5 = 0) : zw_R x z_s00 :=
  ⟨0, fun _ => z_s00, fun _ => false, fun _ => z_s00, 0, fun _ => 0, z_House_of hH (by rw [h83, z_S3_00]) (by rw [h85, z_S5_00]), ⟨0, by omega, h6, h5, by omega, fun k hk => absurd hk (Nat.not_lt_zero k)⟩, fun j hj => ⟨by rw [h13 j hj]; rfl, fun e => by cases e⟩, ⟨by omega, h99, fun k hk => absurd hk (Nat.not_lt_zero k)⟩⟩
theorem zw_law {L : Nat} {xs : Nat → Int32} {x : xS} (hL : L ≤ 260) (h1 : zw_R x z_s00) (h2 : zw_R (sw x) z_s00) : fL_law_b23 L xs FU 0 x = some 1 :=
  zw_loop hL 60 FU 0 x rfl (by decide) ⟨z_s00, z_OK_s00, zi_0, h1, h2⟩
