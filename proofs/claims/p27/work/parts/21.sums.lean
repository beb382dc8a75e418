theorem zs_sm_mono (f : Nat → Nat) : ∀ n k, k ≤ n → z_sm f k ≤ z_sm f n := by
  intro n
  induction n with
  | zero => intro k h; rw [show k = 0 by omega]; exact Nat.le_refl _
  | succ n ih =>
    intro k h
    by_cases c : k = n + 1
    · rw [c]; exact Nat.le_refl _
    · have := ih k (by omega)
      simp only [z_sm]
      omega
theorem zs_comm (F : Nat → Nat → Nat) (b : Nat) : ∀ a, z_sm (fun i => z_sm (fun j => F i j) b) a = z_sm (fun j => z_sm (fun i => F i j) a) b := by
  intro a
  induction a with
  | zero =>
    have : ∀ b, z_sm (fun _ => 0) b = 0 := by
      intro b
      induction b with
      | zero => rfl
      | succ b ih => simp only [z_sm]; rw [ih]
    exact (this b).symm
  | succ a ih =>
    simp only [z_sm]
    rw [ih, ← zi_sm_add]
/-- all hours that are lent are some lodger's -/
theorem zs_hours {s : z_row} (O : z_OKs s) : z_sm (fun l => z_HB s (z_I l) 0 12) 10 = z_LT s := by
  have e : (fun l => z_HB s (z_I l) 0 12) = fun l => z_sm (fun j => if z_BO s (z_I l) (0 + j) = 4 then 0 else 1) 12 := rfl
  rw [e, zs_comm]
  unfold z_LT
  refine z_sm_congr (fun j hj => ?_)
  rw [← z_sumHB O hj]
  refine z_sm_congr (fun l _ => ?_)
  have e1 : z_HB s (z_I l) j 1 = (if z_BO s (z_I l) j = 4 then 0 else 1) := Nat.zero_add _
  rw [e1, Nat.zero_add]
def zs_S (s : z_row) : Nat → Int32
  | 0 => 0
  | n + 1 => zs_S s n + s (6 * n + 3)
theorem zs_S10 (s : z_row) : zs_S s 10 = z_S3 s := by
  simp only [zs_S, z_S3]
  rw [Int32.zero_add]
theorem zs_su2 : ∀ a, a < 10 → ∀ b, b < 10 → (decide (0 < z_I a - z_I b) = decide (b < a)) := by decide +kernel
theorem zs_sh : ∀ l, l < 10 → ∀ M, M < 1024 → z_bt M l = 0 → ((z_I M >>> (z_I l &&& 31)) &&& 1) = 0 := by
  intro l hl M hM h
  rw [z_sb l hl M hM, h]
  rfl
section
variable {x : xS} {s : z_row} {m : Nat} {sv : Nat → z_row} {kp : Nat → Bool} {sl : Nat → z_row} {len : Nat} {tx : Nat → Int32}
/-- the hour's beds -/
theorem zs_b34 (R : z_RelC x s m sv kp sl len tx) (O : z_OKs s) (k18 : Int32 → Int32 → Int32 → Int32 → Int32 → Int32 → Int32 → xS → Option (Int32 × xS)) {h : Nat} (hh : h < 12) {v1 v2 v3 v4 v5 : Int32} :
    ∀ d N b M, b + d = 4 → d < N → M < 1024 → (∀ l, l < 10 → z_bt M l = 1 → ∃ c, c < b ∧ z_hv s c h = z_I l) →
      fL_areSums_b34 k18 0 N v1 v2 v3 v4 v5 1 (z_I h) (z_I M) (z_I (z_sm (fun c => if z_hv s c h = -1 then 0 else 1) b)) (z_I b) x = k18 (v1 + z_I (z_LB s h)) v2 v3 v4 (if z_I (z_LB s h) ≤ v5 then v5 else z_I (z_LB s h)) 1 (z_I (h + 1)) x := by
  intro d
  induction d with
  | zero =>
    intro N b M hb hN hM hI
    obtain ⟨N, rfl⟩ : ∃ j, N = j + 1 := ⟨N - 1, by omega⟩
    have eb : b = 4 := by omega
    subst eb
    rw [fL_areSums_b34, if_pos (by decide), z_lt_]
    have eL : z_sm (fun c => if z_hv s c h = -1 then 0 else 1) 4 = z_LB s h := rfl
    rw [eL]
    unfold fL_areSums_b148
    by_cases c : z_I (z_LB s h) ≤ v5
    · rw [if_pos c, if_pos c, z_I_s]
    · rw [if_neg c, if_neg c, z_I_s]
  | succ d ih =>
    intro N b M hb hN hM hI
    obtain ⟨N, rfl⟩ : ∃ j, N = j + 1 := ⟨N - 1, by omega⟩
    rw [fL_areSums_b34, if_neg (by rw [z_L4, z_I_le (by omega) (by omega)]; omega), zp_at R (by omega) hh, z_ob, if_neg (by decide)]
    have es : z_sm (fun c => if z_hv s c h = -1 then 0 else 1) (b + 1) = z_sm (fun c => if z_hv s c h = -1 then 0 else 1) b + (if z_hv s b h = -1 then 0 else 1) := rfl
    rcases z_OK_h O (show b < 4 by omega) hh with e | ⟨l, hl, e⟩
    · have ih := ih N (b + 1) M (by omega) (by omega) hM (fun l hl q => by
        obtain ⟨c, hc, ec⟩ := hI l hl q
        exact ⟨c, by omega, ec⟩)
      rw [es, e, if_pos rfl, Nat.add_zero] at ih
      rw [e, if_neg (by decide), if_neg (by decide), if_pos (by decide)]
      unfold fL_areSums_b83 fL_areSums_b88
      rw [if_neg (by decide)]
      unfold fL_areSums_b105
      rw [z_lt_, if_neg (by decide)]
      unfold fL_areSums_b120
      rw [z_lt_, z_I_s, Int32.add_zero, show z_I M ||| 0 = z_I M from Int32.or_zero]
      exact ih
    · have hbt : z_bt M l = 0 := by
        rcases z_bt_2 M l with q | q
        · exact q
        · obtain ⟨c, hc, ec⟩ := hI l hl q
          have := O.2.2.2.2.2 h hh c (by omega) b (by omega) (by rw [ec, e]) (by rw [ec, ne_eq, z_I_n1 (by omega)]; exact id)
          omega
      have hne : ¬ z_I l = (-1 : Int32) := by rw [z_I_n1 (by omega)]; exact id
      have hM2 : M ||| 2 ^ l < 1024 := by
        have h2 : 2 ^ l < 2 ^ 10 := Nat.pow_lt_pow_right (by decide) hl
        exact Nat.or_lt_two_pow (n := 10) hM h2
      have ih := ih N (b + 1) (M ||| 2 ^ l) (by omega) (by omega) hM2 (fun l' hl' q => by
        rw [z_bt_or l hl l' hl' M hM] at q
        by_cases c : l' = l
        · exact ⟨b, by omega, by rw [c]; exact e⟩
        · rw [if_neg c] at q
          obtain ⟨c, hc, ec⟩ := hI l' hl' q
          exact ⟨c, by omega, ec⟩)
      rw [es, e, if_neg hne] at ih
      rw [e, if_neg (by rw [Int32.not_lt]; rw [Int32.le_iff_toInt_le, z_I_toInt (by omega)]; show (-1 : Int) ≤ _; omega), if_neg (by rw [z_L10, z_I_le (by omega) (by omega)]; omega), if_neg (by rw [z_I_nn (by omega)]; exact id), if_pos (zs_sh l hl M hM hbt)]
      have h0 : (0 : Int32) ≤ z_I l := by rw [z_L0, z_I_le (by omega) (by omega)]; omega
      unfold fL_areSums_b83 fL_areSums_b88
      rw [if_pos h0]
      unfold fL_areSums_b105
      rw [z_lt_, if_pos h0]
      unfold fL_areSums_b120
      rw [z_lt_, z_I_s, z_sh1 l hl, z_I_or, z_I_s]
      exact ih
theorem zs_b18 (R : z_RelC x s m sv kp sl len tx) (O : z_OKs s) : ∀ d N h, h + d = 12 → d < N → fL_areSums_b18 0 N (z_I (z_sm (fun h => z_LB s h) h)) 0 0 0 (z_I (z_fo (fun a h => if a < z_LB s h then z_LB s h else a) 0 0 h)) 1 (z_I h) x = fL_areSums_b165 0 FU (z_I (z_LT s)) 0 0 0 (z_I (z_ML s)) 1 (z_I (z_LT s)) 0 0 x := by
  have hmx : ∀ h, z_fo (fun a h => if a < z_LB s h then z_LB s h else a) 0 0 h ≤ 4 := by
    intro h
    induction h with
    | zero => exact Nat.zero_le _
    | succ h ih =>
      rw [z_fo_r]
      have := z_LB_le s (0 + h)
      split <;> omega
  intro d
  induction d with
  | zero =>
    intro N h hh hN
    obtain ⟨N, rfl⟩ : ∃ j, N = j + 1 := ⟨N - 1, by omega⟩
    have eh : h = 12 := by omega
    subst eh
    rw [fL_areSums_b18, if_pos (by decide)]
    rfl
  | succ d ih =>
    intro N h hh hN
    obtain ⟨N, rfl⟩ : ∃ j, N = j + 1 := ⟨N - 1, by omega⟩
    have hL := z_LB_le s h
    have hm := hmx h
    rw [fL_areSums_b18, if_neg (by rw [z_L12, z_I_le (by omega) (by omega)]; omega)]
    have e := zs_b34 R O (fL_areSums_b18 0 N) (show h < 12 by omega) (v1 := z_I (z_sm (fun h => z_LB s h) h)) (v2 := 0) (v3 := 0) (v4 := 0) (v5 := z_I (z_fo (fun a h => if a < z_LB s h then z_LB s h else a) 0 0 h)) 4 FU 0 0 rfl (by decide) (by decide) (fun l _ q => by unfold z_bt at q; rw [Nat.zero_div] at q; omega)
    have ih := ih N (h + 1) (by omega) (by omega)
    have e1 : z_sm (fun h => z_LB s h) (h + 1) = z_sm (fun h => z_LB s h) h + z_LB s h := rfl
    rw [e1, z_fo_r, Nat.zero_add] at ih
    rw [show fL_areSums_b34 (fL_areSums_b18 0 N) 0 FU (z_I (z_sm (fun h => z_LB s h) h)) 0 0 0 (z_I (z_fo (fun a h => if a < z_LB s h then z_LB s h else a) 0 0 h)) 1 (z_I h) 0 0 0 x = _ from e, z_I_add]
    by_cases c : z_LB s h ≤ z_fo (fun a h => if a < z_LB s h then z_LB s h else a) 0 0 h
    · rw [if_pos (by rw [z_I_le (by omega) (by omega)]; exact c)]
      rw [if_neg (by omega)] at ih
      exact ih
    · rw [if_neg (by rw [z_I_le (by omega) (by omega)]; exact c)]
      rw [if_pos (by omega)] at ih
      exact ih
end
