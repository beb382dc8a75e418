theorem zp_FrC_refl (x : xS) : z_FrC x x := ⟨rfl, fun _ _ => rfl⟩
theorem zp_chkL {l : Nat} (x : xS) (h : l < 10) : fpX6_checkLodger (z_I l) x = some () := by
  unfold fpX6_checkLodger fpX6_checkLodger_b0
  rw [if_neg (by rw [z_I_nn (by omega)]; exact id), if_pos (by rw [z_L10, z_I_lt (by omega) (by omega)]; exact h)]
theorem zp_chkR {k a b : Nat} (x : xS) (hb : b < 1000) (ha : a ≤ k) (h : k ≤ b) : fpX6_checkRange (z_I k) (z_I a) (z_I b) x = some () := by
  unfold fpX6_checkRange fpX6_checkRange_b0
  rw [if_neg (by rw [z_I_lt (by omega) (by omega)]; omega), if_pos (by rw [z_I_le (by omega) (by omega)]; exact h)]
theorem zp_chkH {k : Nat} (x : xS) (h : k < 12) : fpX6_checkHour (z_I k) x = some () := by
  unfold fpX6_checkHour fpX6_checkHour_b0
  rw [show fpX6_checkRange (z_I k) 0 11 x = _ from zp_chkR (a := 0) (b := 11) x (by omega) (by omega) (by omega), z_ob]
theorem zp_chkA {l f n : Nat} (x : xS) (h : l < 10) (hf : f < 12) (h1 : 1 ≤ n) (h9 : n ≤ 9) (hh : f + n ≤ 12) : fpX6_checkAsking (z_I l) (z_I f) (z_I n) x = some () := by
  unfold fpX6_checkAsking fpX6_checkAsking_b0
  rw [zp_chkL x h, z_ob, z_c_within_y x ⟨hf, h1, h9, hh⟩, z_ob, if_neg (by decide)]
section
variable {x : xS} {s : z_row} {m : Nat} {sv : Nat → z_row} {kp : Nat → Bool} {sl : Nat → z_row} {len : Nat} {tx : Nat → Int32}
theorem zp_at (R : z_RelC x s m sv kp sl len tx) {b h : Nat} (hb : b < 4) (hh : h < 12) : fpX6_at 0 (z_I b) (z_I h) x = some (z_hv s b h) := by
  unfold fpX6_at fpX6_at_b0 fX4_holder fX4_holder_b0
  rw [if_neg (by rw [z_I_nn (by omega)]; exact id), if_pos (by rw [z_L4, z_I_lt (by omega) (by omega)]; exact hb), zp_chkH x hh, z_ob]
  rw [show fX2_get (0 + 1 + 1 + 1) (z_I b) (z_I h) x = _ from z_gH (z_House_1 R.1) hb hh, z_ob, z_ob]
theorem zp_lodgerOf (R : z_RelC x s m sv kp sl len tx) {l k : Nat} (hl : l < 10) (hk : k < 7) : fpX6_lodgerOf 0 (z_I l) (z_I k) x = some (z_LN s l k) := by
  unfold fpX6_lodgerOf fpX6_lodgerOf_b0
  rw [zp_chkL x hl, z_ob]
  rw [show fpX6_checkRange (z_I k) 0 6 x = _ from zp_chkR (a := 0) (b := 6) x (by omega) (by omega) (by omega), z_ob]
  rw [show fX3_lodgerNumber (0 + 1) (z_I l) (z_I k) x = _ from z_c_lodgerNumber (z_House_1 R.1) hl hk, z_ob]
theorem zp_count (R : z_RelC x s m sv kp sl len tx) {k : Nat} (hk : k < 12) : fpX6_count 0 (z_I k) x = some (z_CT2 s m k) := by
  unfold fpX6_count fpX6_count_b0
  rw [show fpX6_checkRange (z_I k) 0 11 x = _ from zp_chkR (a := 0) (b := 11) x (by omega) (by omega) (by omega), z_ob]
  rw [z_c_accountOf R hk, z_ob]
theorem zp_refused (R : z_RelC x s m sv kp sl len tx) {r : Nat} (h1 : 1 ≤ r) (h4 : r ≤ 4) : fpX6_refused 0 (z_I r) x = some (s (110 + r)) := by
  unfold fpX6_refused fpX6_refused_b0
  rw [show fpX6_checkRange (z_I r) 1 4 x = _ from zp_chkR (a := 1) (b := 4) x (by omega) (by omega) (by omega), z_ob]
  rw [show fX3_refusedFor (0 + 1) (z_I r) x = _ from z_c_refusedFor (z_House_1 R.1) h1 h4, z_ob]
theorem zp_ifAsked (R : z_RelC x s m sv kp sl len tx) (O : z_OKs s) {l f n : Nat} (hl : l < 10) (hf : f < 12) (h1 : 1 ≤ n) (h9 : n ≤ 9) (hh : f + n ≤ 12) : fpX6_ifAsked 0 (z_I l) (z_I f) (z_I n) x = some (z_I (z_AN s l f n)) := by
  unfold fpX6_ifAsked fpX6_ifAsked_b0
  rw [zp_chkA x hl hf h1 h9 hh, z_ob]
  rw [show fX3_answerTo (0 + 1) (z_I l) (z_I f) (z_I n) x = _ from z_c_answerTo (z_House_1 R.1) O hl hh, z_ob]
theorem zp_ifPutOut (R : z_RelC x s m sv kp sl len tx) (O : z_OKs s) {l f n : Nat} (hl : l < 10) (hf : f < 12) (h1 : 1 ≤ n) (h9 : n ≤ 9) (hh : f + n ≤ 12) : fpX6_ifPutOut 0 (z_I l) (z_I f) (z_I n) x = some (z_I (z_WO s l f n)) := by
  unfold fpX6_ifPutOut fpX6_ifPutOut_b0
  rw [zp_chkA x hl hf h1 h9 hh, z_ob]
  rw [show fX3_wouldBePutOut (0 + 1) (z_I l) (z_I f) (z_I n) x = _ from z_c_wouldBePutOut (z_House_1 R.1) O hl hh, z_ob]
  rfl
theorem zp_longest (R : z_RelC x s m sv kp sl len tx) {l f : Nat} (hl : l < 10) (hf : f < 12) : fpX6_longest 0 (z_I l) (z_I f) x = some (z_I (z_LF s (z_I l) f)) := by
  unfold fpX6_longest fpX6_longest_b0
  rw [zp_chkL x hl, z_ob]
  rw [zp_chkH x hf, z_ob]
  rw [show fX4_longestFor (0 + 1 + 1) (z_I l) (z_I f) x = _ from z_c_longestFor (z_House_1 R.1) hf, z_ob]
theorem zp_fewest (R : z_RelC x s m sv kp sl len tx) {v : Nat} (z_hv : v ≤ 1) : ∃ x', fpX6_fewestBeds 0 (z_I v) x = some (z_I (z_ML s), x') ∧ z_RelC x' s m sv kp sl len tx ∧ z_FrC x x' := by
  unfold fpX6_fewestBeds fpX6_fewestBeds_b0
  rw [show fpX6_checkRange (z_I v) 0 1 x = _ from zp_chkR (a := 0) (b := 1) x (by omega) (by omega) (by omega), z_ob]
  rcases (by omega : v = 0 ∨ v = 1) with rfl | rfl
  · rw [if_pos (by decide)]
    obtain ⟨y, ey, Xy⟩ := z_c_bedsFor (z_House_1 R.1)
    rw [show fX1_bedsFor (0 + 97) (0 + 1 + 1) x = _ from ey, z_ob]
    exact ⟨y, rfl, (z_RelC_XB R Xy).1, (z_RelC_XB R Xy).2⟩
  · rw [if_neg (by decide), show fX4_mostLentBeds (0 + 1 + 1) x = _ from z_c_mostLentBeds (z_House_1 R.1), z_ob]
    exact ⟨x, rfl, R, zp_FrC_refl x⟩
theorem zp_ask (R : z_RelC x s m sv kp sl len tx) (O : z_OKs s) {l f n : Nat} (hl : l < 10) (hf : f < 12) (h1 : 1 ≤ n) (h9 : n ≤ 9) (hh : f + n ≤ 12) : ∃ x', fpX6_ask 0 (z_I l) (z_I f) (z_I n) x = some (z_I (z_AN s l f n), x') ∧ z_RelC x' (z_TA s l f n (z_gn s)) (z_nM m) (z_nV m sv s) kp sl len tx ∧ z_FrC x x' := by
  obtain ⟨x', e, R', F⟩ := z_C_ask R O hl hf h1 h9 hh
  refine ⟨x', ?_, R', F⟩
  unfold fpX6_ask fpX6_ask_b0
  rw [zp_chkA x hl hf h1 h9 hh, z_ob]
  unfold fX6_ask fX6_ask_b0 at e
  rw [z_c_chkA_ok x hl ⟨f, n, rfl, rfl, hf, h1, h9, hh⟩, z_ob] at e
  dsimp only at e
  obtain ⟨y, e1, e⟩ := oB e
  obtain ⟨w, e2, e⟩ := oB e
  rw [e1, z_ob, e2, z_ob]
  exact congrArg some (Sum.inr.inj (Option.some.inj e))
theorem zp_undo (R : z_RelC x s (m + 1) sv kp sl len tx) : ∃ x', fpX6_undo 0 x = some (z_I m, x') ∧ z_RelC x' (sv m) m sv kp sl len tx ∧ z_FrC x x' := by
  obtain ⟨H, ⟨nx, h1, h2, h3, h4, h5⟩, K, T⟩ := R
  unfold fpX6_undo fpX6_undo_b0
  rw [h3, h2, if_neg (by rw [z_L0, z_I_eq (by omega) (by omega)]; omega)]
  obtain ⟨n2, hn2, hb⟩ : ∃ n2, n2 = (nx + 5) % 6 ∧ (if z_I nx = 0 then fpX6_undo_b35 0 5 x else fpX6_undo_b35 0 (z_I nx - 1) x) = fpX6_undo_b35 0 (z_I n2) x := by
    by_cases c : nx = 0
    · exact ⟨5, by omega, by rw [if_pos (by rw [c]; rfl)]; rfl⟩
    · exact ⟨nx - 1, by omega, by rw [if_neg (by rw [z_L0, z_I_eq (by omega) (by omega)]; omega), z_L1, z_I_sub (by omega)]⟩
  rw [hb]
  unfold fpX6_undo_b35
  have e5 : (up1 x 0 6 (z_I n2)).1 0 5 = z_I (m + 1) := by rw [z_up1_at, if_neg (by omega), h3]
  rw [z_lt_, e5, z_L1, z_I_sub (by omega), show m + 1 - 1 = m from rfl, z_lt_]
  have e6 : (up1 (up1 x 0 6 (z_I n2)) 0 5 (z_I m)).1 0 6 = z_I n2 := by rw [z_up1_at, if_neg (by omega), z_up1_at, if_pos ⟨rfl, rfl⟩]
  have e5' : (up1 (up1 x 0 6 (z_I n2)) 0 5 (z_I m)).1 0 5 = z_I m := by rw [z_up1_at, if_pos ⟨rfl, rfl⟩]
  have eo : ∀ i, i ≠ 0 → (up1 (up1 x 0 6 (z_I n2)) 0 5 (z_I m)).1 i = x.1 i := fun i hi => by rw [z_up1_o _ _ _ hi, z_up1_o _ _ _ hi]
  have e2 : (up1 (up1 x 0 6 (z_I n2)) 0 5 (z_I m)).2 = x.2 := rfl
  rw [e6]
  generalize up1 (up1 x 0 6 (z_I n2)) 0 5 (z_I m) = y at *
  unfold fX5_restore fX5_restore_b0
  rw [z_houseIn_y y (i0 := 0 + 34) (k := n2) (show n2 < 6 by omega) (by decide), z_ob]
  dsimp only
  have hi : (nx + 6 - (m + 1) + m) % 6 = n2 := by omega
  have Hs : z_House (37 + 10 * n2) y (sv m) := by
    have := h5 m (by omega)
    rw [hi] at this
    exact z_House_fr (by omega) (fun i a b => eo i (by omega)) this
  obtain ⟨z, ez, Hz, F⟩ := z_c_copyHouse (show 1 ∈ z_bases by decide) (z_slotBase (show n2 < 6 by omega)) (by omega) Hs
  rw [show 0 + 34 + 1 + 2 + 10 * n2 = 37 + 10 * n2 from rfl, show (0 + 1 : Nat) = 1 from rfl, ez, z_ob, z_ob]
  have hzi : ∀ i, i ≠ 0 → ¬ (1 ≤ i ∧ i < 11) → z.1 i = x.1 i := fun i a b => by rw [F.2 i b, eo i a]
  have e0 : z.1 0 5 = z_I m := by rw [F.2 0 (by omega), e5']
  refine ⟨z, by rw [e0], ⟨Hz, ⟨n2, by omega, ?_, ?_, by omega, fun k hk => ?_⟩, z_RK_fr (fun i hi => hzi i (by omega) (by omega)) K, z_RT_fr (fun i hi => hzi i (by omega) (by omega)) T⟩, by rw [F.1, e2], fun i hi => hzi i (by omega) (by omega)⟩
  · rw [F.2 0 (by omega), e6]
  · exact e0
  · have := h5 k (by omega)
    rw [show (nx + 6 - (m + 1) + k) % 6 = (n2 + 6 - m + k) % 6 by omega] at this
    exact z_House_fr (by omega) (fun i a b => hzi i (by omega) (by omega)) this
end
