section
variable {x : xS} {s : z_row} {m : Nat} {sv : Nat → z_row} {kp : Nat → Bool} {sl : Nat → z_row} {len : Nat} {tx : Nat → Int32}
theorem zt_top (m : Nat) (sv : Nat → z_row) (s : z_row) (hm : m ≤ 6) : ∃ m1, z_nM m = m1 + 1 ∧ z_nV m sv s m1 = s ∧ m1 = if m = 6 then 5 else m := by
  by_cases c : m = 6
  · subst c
    exact ⟨5, rfl, rfl, rfl⟩
  · refine ⟨m, ?_, ?_, by rw [if_neg c]⟩
    · unfold z_nM; rw [if_neg c]
    · unfold z_nV; rw [if_neg c, if_neg (by omega)]
theorem zt_F_lt (s : z_row) (f n : Nat) : zt_F s f n = -1 ∨ zt_F s f n = z_I (z_EM s f n) := by
  by_cases h : z_LI s (z_EM s f n) f n = 0
  · right; exact zt_F_y h
  · left; exact zt_F_n h
theorem zt_b6 (R : z_RelC x s m sv kp sl len tx) {l f n : Nat} (hl : l < 10) (hh : f + n ≤ 12) :
    fL_isAskingSo 0 (z_I l) (z_I f) (z_I n) x = fL_isAskingSo_b53 0 (z_I l) (z_I f) (z_I n) (zt_F s f n) (if s (6 * l + 1) = z_I 7 then 1 else 0) x := by
  have st : ∀ N b (v : Int32), b < 4 → fL_isAskingSo_b6 0 (z_I l) (z_I f) (z_I n) (N + 1) v (z_I b) x = fL_isAskingSo_b6 0 (z_I l) (z_I f) (z_I n) N (if z_LI s b f n = 0 then z_I b else v) (z_I b + (-1)) x := by
    intro N b v hb
    rw [fL_isAskingSo_b6, if_neg (by rw [z_I_nn (by omega)]; exact id), zl_isFree R hb hh, z_ob]
    unfold fL_isAskingSo_b29
    by_cases c : z_LI s b f n = 0
    · rw [if_pos c, if_neg (by decide), if_pos c]
    · rw [if_neg c, if_pos rfl, if_neg c]
  unfold fL_isAskingSo fL_isAskingSo_b0
  rw [show FU = 1995 + 1 + 1 + 1 + 1 + 1 from rfl, show (3 : Int32) = z_I 3 from rfl, st _ 3 _ (by omega), show z_I 3 + (-1) = z_I 2 from by decide, st _ 2 _ (by omega), show z_I 2 + (-1) = z_I 1 from by decide, st _ 1 _ (by omega), show z_I 1 + (-1) = z_I 0 from by decide, st _ 0 _ (by omega), show z_I 0 + (-1) = -1 from by decide, fL_isAskingSo_b6, if_pos (by decide)]
  rw [show (if z_LI s 0 f n = 0 then z_I 0 else if z_LI s 1 f n = 0 then z_I 1 else if z_LI s 2 f n = 0 then z_I 2 else if z_LI s 3 f n = 0 then z_I 3 else -1) = zt_F s f n from rfl]
  rw [show fpX6_lodgerOf 0 (z_I l) 1 x = some (s (6 * l + 1)) from zp_lodgerOf R (k := 1) hl (by omega), z_ob]
  by_cases c : s (6 * l + 1) = z_I 7
  · rw [if_pos (by rw [c]; rfl), if_pos c]
  · rw [if_neg (show ¬ s (6 * l + 1) = 7 from c), if_neg c]
/-- the reason that its own words tell -/
theorem zt_b53 (R : z_RelC x s m sv kp sl len tx) (O : z_OKs s) {l f n : Nat} (hl : l < 10) (hf : f < 12) (h1 : 1 ≤ n) (hh : f + n ≤ 12) :
    fL_isAskingSo_b53 0 (z_I l) (z_I f) (z_I n) (zt_F s f n) (if s (6 * l + 1) = z_I 7 then 1 else 0) x = fL_isAskingSo_b141 0 (z_I l) (z_I f) (z_I n) (zt_F s f n) (if s (6 * l + 1) = z_I 7 then 1 else 0) (if s (6 * l) < s 119 then 0 else 1) (z_I (if 10 ≤ z_AN s l f n then 0 else z_AN s l f n)) x := by
  have hE := z_EM_lt s f n
  obtain ⟨g1, g2⟩ := z_gn_ok O
  have f0 : fpX6_lodgerOf 0 (z_I l) 0 x = some (s (6 * l)) := zp_lodgerOf R (k := 0) hl (by omega)
  have f2 : fpX6_lodgerOf 0 (z_I l) 2 x = some (s (6 * l + 2)) := zp_lodgerOf R (k := 2) hl (by omega)
  have c9 : fpX6_count 0 9 x = some (s 119) := zp_count R (k := 9) (by omega)
  have c0 : fpX6_count 0 0 x = some (s 108) := zp_count R (k := 0) (by omega)
  have tail : ∀ nd : Int32, nd = (if s (6 * l) < s 119 then 0 else 1) → fL_isAskingSo_b75 0 (z_I l) (z_I f) (z_I n) (zt_F s f n) (if s (6 * l + 1) = z_I 7 then 1 else 0) nd x = fL_isAskingSo_b141 0 (z_I l) (z_I f) (z_I n) (zt_F s f n) (if s (6 * l + 1) = z_I 7 then 1 else 0) nd (z_I (if 10 ≤ z_AN s l f n then 0 else z_AN s l f n)) x := by
    intro nd hnd
    unfold fL_isAskingSo_b75
    rw [c0, z_ob]
    by_cases k1 : z_I f < s 108
    · rw [if_neg (Int32.not_le.mpr k1)]
      have eA : z_AN s l f n = 1 := by unfold z_AN; rw [if_pos k1]
      rw [eA, if_neg (show ¬ 10 ≤ 1 by omega)]
      rfl
    · rw [if_pos (Int32.not_lt.mp k1), zl_has R hl h1 hh, z_ob]
      by_cases k2 : z_HB s (z_I l) f n = 0
      · rw [if_pos k2, if_pos rfl]
        by_cases k3 : s (6 * l + 1) = z_I 7
        · have eA : z_AN s l f n = 10 + z_EM s f n := by unfold z_AN; rw [if_neg k1, if_neg (by omega), if_pos k3]
          rw [if_pos k3, if_neg (by decide), eA, if_pos (by omega)]
          rfl
        · rw [if_neg k3, if_pos rfl]
          have t131 : ¬ (s (6 * l) < s 119 ∧ s (6 * l + 2) = 0) → fL_isAskingSo_b131 0 (z_I l) (z_I f) (z_I n) (zt_F s f n) 0 nd x = fL_isAskingSo_b141 0 (z_I l) (z_I f) (z_I n) (zt_F s f n) 0 nd (z_I (if 10 ≤ z_AN s l f n then 0 else z_AN s l f n)) x := by
            intro k4
            unfold fL_isAskingSo_b131
            by_cases k5 : z_LI s (z_EM s f n) f n = 0
            · have eA : z_AN s l f n = 10 + z_EM s f n := by unfold z_AN; rw [if_neg k1, if_neg (by omega), if_neg k3, if_neg k4, if_neg (by omega)]
              rw [if_pos (by rw [zt_F_y k5, z_L0, z_I_le (by omega) (by omega)]; omega), eA, if_pos (by omega)]
              rfl
            · have eA : z_AN s l f n = 4 := by unfold z_AN; rw [if_neg k1, if_neg (by omega), if_neg k3, if_neg k4, if_pos (by omega)]
              rw [if_neg (by rw [zt_F_n k5]; decide), eA, if_neg (by omega)]
              rfl
          by_cases k6 : s (6 * l) < s 119
          · rw [if_pos k6] at hnd
            rw [if_pos hnd, f2, z_ob]
            by_cases k7 : s (6 * l + 2) = 0
            · have eA : z_AN s l f n = 3 := by unfold z_AN; rw [if_neg k1, if_neg (by omega), if_neg k3, if_pos ⟨k6, k7⟩]
              rw [if_pos k7, eA, if_neg (by omega)]
              rfl
            · rw [if_neg k7]
              exact t131 (fun q => k7 q.2)
          · rw [if_neg k6] at hnd
            rw [if_neg (by rw [hnd]; decide)]
            exact t131 (fun q => k6 q.1)
      · rw [if_neg k2, if_neg (by decide)]
        have eA : z_AN s l f n = 2 := by unfold z_AN; rw [if_neg k1, if_pos (by omega)]
        rw [eA, if_neg (show ¬ 10 ≤ 2 by omega)]
        rfl
  unfold fL_isAskingSo_b53
  rw [f0, z_ob, c9, z_ob]
  by_cases k6 : s (6 * l) < s 119
  · rw [if_pos k6, if_pos k6]
    exact tail 0 (by rw [if_pos k6])
  · rw [if_neg k6, if_neg k6]
    exact tail 1 (by rw [if_neg k6])
theorem zt_WO_bt (O : z_OKs s) {l f n : Nat} (hl : l < 10) (hf : f < 12) (h1 : 1 ≤ n) (hh : f + n ≤ 12) : z_WO s l f n < 1024 ∧ z_bt (z_WO s l f n) l = 0 := by
  unfold z_WO
  by_cases h : 10 ≤ z_AN s l f n
  · rw [if_pos h]
    obtain ⟨e, he, eA, _, hHB, _⟩ := zt_TA O hl hf h1 hh h
    rw [eA, show 10 + e - 10 = e by omega]
    refine ⟨z_MK_lt2 O.1 he (by omega), ?_⟩
    rcases z_bt_2 (z_MK s e f n) l with q | q
    · exact q
    · obtain ⟨j, a1, a2, a3⟩ := zt_MK_bt O he hl n hh q
      exact absurd a3 (z_BO_no (z_HB_0 hHB j a1 a2) e he)
  · rw [if_neg h]
    refine ⟨by decide, ?_⟩
    unfold z_bt
    rw [Nat.zero_div]
/-- what it would be told and what is told behind it -/
theorem zt_b141 (R : z_RelC x s m sv kp sl len tx) (O : z_OKs s) {l f n : Nat} (hl : l < 10) (hf : f < 12) (h1 : 1 ≤ n) (h9 : n ≤ 9) (hh : f + n ≤ 12) (v5 v6 : Int32) :
    ∃ x', fL_isAskingSo_b141 0 (z_I l) (z_I f) (z_I n) (zt_F s f n) v5 v6 (z_I (if 10 ≤ z_AN s l f n then 0 else z_AN s l f n)) x = fL_isAskingSo_b289 0 (z_I l) (z_I f) (z_I n) v5 v6 (z_I (if 10 ≤ z_AN s l f n then 0 else z_AN s l f n)) (z_I (z_AN s l f n)) (z_I (z_WO s l f n)) (s (6 * l + 1)) (s (6 * l + 2)) (s 116) (z_S3 s) (z_I (z_LT s)) 1 x' ∧
      z_RelC x' (z_TA s l f n (z_gn s)) (z_nM m) (z_nV m sv s) kp sl len tx ∧ z_FrC x x' := by
  have hA := z_AN_lt s l f n
  have hA2 := z_AN_13 s l f n
  have hE := z_EM_lt s f n
  obtain ⟨hW, hWl⟩ := zt_WO_bt O hl hf h1 hh
  obtain ⟨x', ex, R', F⟩ := zp_ask R O hl hf h1 h9 hh
  refine ⟨x', ?_, R', F⟩
  have f1 : fpX6_lodgerOf 0 (z_I l) 1 x = some (s (6 * l + 1)) := zp_lodgerOf R (k := 1) hl (by omega)
  have f2 : fpX6_lodgerOf 0 (z_I l) 2 x = some (s (6 * l + 2)) := zp_lodgerOf R (k := 2) hl (by omega)
  have c7 : fpX6_count 0 7 x = some (s 116) := zp_count R (k := 7) (by omega)
  have c3 : fpX6_count 0 3 x = some (z_S3 s) := zp_count R (k := 3) (by omega)
  have c2 : fpX6_count 0 2 x = some (z_I (z_LT s)) := zp_count R (k := 2) (by omega)
  have e263 : fL_isAskingSo_b263 0 (z_I l) (z_I f) (z_I n) v5 v6 (z_I (if 10 ≤ z_AN s l f n then 0 else z_AN s l f n)) (z_I (z_AN s l f n)) (z_I (z_WO s l f n)) (s (6 * l + 1)) (s (6 * l + 2)) (s 116) (z_S3 s) (z_I (z_LT s)) x = fL_isAskingSo_b289 0 (z_I l) (z_I f) (z_I n) v5 v6 (z_I (if 10 ≤ z_AN s l f n then 0 else z_AN s l f n)) (z_I (z_AN s l f n)) (z_I (z_WO s l f n)) (s (6 * l + 1)) (s (6 * l + 2)) (s 116) (z_S3 s) (z_I (z_LT s)) 1 x' := by
    unfold fL_isAskingSo_b263
    rw [if_pos (zs_sh l hl _ hW hWl), ex, z_ob]
    exact if_pos rfl
  unfold fL_isAskingSo_b141
  rw [zp_ifAsked R O hl hf h1 h9 hh, z_ob, zp_ifPutOut R O hl hf h1 h9 hh, z_ob, f1, z_ob, f2, z_ob, c7, z_ob, c3, z_ob, c2, z_ob]
  by_cases h : 10 ≤ z_AN s l f n
  · obtain ⟨e, he, eA, ee, hHB, hl0, -⟩ := zt_TA O hl hf h1 hh h
    have eW : z_WO s l f n = z_MK s e f n := by unfold z_WO; rw [if_pos h, eA, show 10 + e - 10 = e by omega]
    rw [if_pos h] at e263 ⊢
    rw [if_pos (by decide), if_neg (by rw [z_L9, z_I_le (by omega) (by omega)]; omega), if_neg (by rw [show (14 : Int32) = z_I 14 from rfl, z_I_le (by omega) (by omega)]; omega)]
    by_cases l0 : z_LI s e f n = 0
    · have eF : zt_F s f n = z_I e := by rw [ee] at l0 ⊢; exact zt_F_y l0
      have eW0 : z_WO s l f n = 0 := by rw [eW]; exact z_MK_z (z_LI_0 l0)
      rw [if_neg (by rw [eF, z_I_nn (by omega)]; exact id), if_pos (by rw [eA, eF, z_L10, z_I_add]), if_pos (by rw [eW0]; rfl)]
      unfold fL_isAskingSo_b253
      rw [if_pos (by rw [eF, z_L0, z_I_le (by omega) (by omega)]; omega)]
      exact e263
    · have eF : zt_F s f n = -1 := by rw [ee] at l0; exact zt_F_n l0
      have hpos : ¬ z_WO s l f n = 0 := fun q => l0 (zt_MK_pos O he n hh (by rw [← eW]; exact q))
      rw [if_pos (by rw [eF]; decide)]
      unfold fL_isAskingSo_b253
      rw [if_neg (by rw [eF]; decide), if_neg (by rw [z_L0, z_I_le (by omega) (by omega)]; omega)]
      exact e263
  · have eW0 : z_WO s l f n = 0 := by unfold z_WO; rw [if_neg h]
    rw [if_neg h] at e263 ⊢
    rw [if_neg (by rw [z_L0, z_I_le (by omega) (by omega)]; omega), if_pos rfl, if_pos (by rw [eW0]; rfl)]
    exact e263
end
