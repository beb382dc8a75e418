theorem z_S_TA (s : z_row) {l f n g : Nat} (hl : l < 10) (z_hn : 1 ≤ n) (hh : f + n ≤ 12) : z_S3 (z_TA s l f n g) = z_S3 s + 0 ∧ z_S5 (z_TA s l f n g) = z_S5 s + (if 10 ≤ z_AN s l f n then 0 else 1) := by
  have h1 := z_AN_lt s l f n
  have h2 := z_AN_13 s l f n
  unfold z_TA
  by_cases h : 10 ≤ z_AN s l f n
  · rw [if_pos h, if_pos h]
    have := z_Kp_GR s (b := z_AN s l f n - 10) (g := g) hl (by omega) z_hn hh
    exact ⟨by rw [z_S3_K this, Int32.add_zero], by rw [z_S5_K this, Int32.add_zero]⟩
  · rw [if_neg h, if_neg h]
    exact ⟨by rw [z_S3_RF s hl (by omega), Int32.add_zero], z_S5_RF s hl (by omega) (by omega)⟩
def z_hn (v : Int32) : Nat := if v = -1 then 10 else v.toNatClampNeg
def z_okc : Bool := (List.range 11).all (fun a => (List.range 11).all (fun b => (List.range 11).all (fun c => (List.range 11).all (fun d =>
  !(decide (a = 10 ∨ a ≠ b) && decide (a = 10 ∨ a ≠ c) && decide (a = 10 ∨ a ≠ d) && decide (b = 10 ∨ b ≠ c) && decide (b = 10 ∨ b ≠ d) && decide (c = 10 ∨ c ≠ d)) ||
  decide (z_sm (fun l => if a = l ∨ b = l ∨ c = l ∨ d = l then 1 else 0) 10 = (if a = 10 then 0 else 1) + (if b = 10 then 0 else 1) + (if c = 10 then 0 else 1) + (if d = 10 then 0 else 1))))))
set_option maxRecDepth 100000 in
theorem z_okc_t : z_okc = true := by decide +kernel
theorem z_hn_spec {s : z_row} (O : z_OKs s) {b h : Nat} (hb : b < 4) (hh : h < 12) : z_hn (z_hv s b h) < 11 ∧ (z_hn (z_hv s b h) = 10 ↔ z_hv s b h = -1) ∧ ∀ l, l < 10 → (z_hn (z_hv s b h) = l ↔ z_hv s b h = z_I l) := by
  unfold z_hn
  rcases z_OK_h O hb hh with e | ⟨k, hk, e⟩
  · rw [e]
    refine ⟨by decide, ⟨fun _ => rfl, fun _ => rfl⟩, fun l hl => ⟨fun h => ?_, fun h => ?_⟩⟩
    · rw [if_pos rfl] at h; omega
    · rw [z_I_1n (by omega)] at h; exact h.elim
  · rw [e, if_neg (by rw [z_I_n1 (by omega)]; exact id), z_I_nat (by omega)]
    refine ⟨by omega, ⟨fun h => by omega, fun h => ?_⟩, fun l hl => by rw [z_I_eq (by omega) (by omega)]⟩
    rw [z_I_n1 (by omega)] at h; exact h.elim
theorem z_sumHB {s : z_row} (O : z_OKs s) {g : Nat} (hg : g < 12) : z_sm (fun l => z_HB s (z_I l) g 1) 10 = z_LB s g := by
  obtain ⟨a1, a2, a3⟩ := z_hn_spec O (b := 0) (by omega) hg
  obtain ⟨b1, b2, b3⟩ := z_hn_spec O (b := 1) (by omega) hg
  obtain ⟨c1, c2, c3⟩ := z_hn_spec O (b := 2) (by omega) hg
  obtain ⟨d1, d2, d3⟩ := z_hn_spec O (b := 3) (by omega) hg
  have t := z_okc_t
  unfold z_okc at t
  simp only [List.all_eq_true, List.mem_range] at t
  have u := t _ a1 _ b1 _ c1 _ d1
  have U := O.2.2.2.2.2 g hg
  have dis : ∀ b c, b < 4 → c < 4 → b ≠ c → z_hn (z_hv s b g) = 10 ∨ z_hn (z_hv s b g) ≠ z_hn (z_hv s c g) := by
    intro b c hb z_hc hne
    obtain ⟨p1, p2, p3⟩ := z_hn_spec O hb hg
    obtain ⟨q1, q2, q3⟩ := z_hn_spec O z_hc hg
    by_cases e : z_hn (z_hv s b g) = 10
    · exact Or.inl e
    · right
      intro e2
      have h1 := (p3 _ (by omega)).mp rfl
      have h2 := (q3 (z_hn (z_hv s b g)) (by omega)).mp e2.symm
      exact hne (U b hb c z_hc (h1.trans h2.symm) (fun x => e (p2.mpr x)))
  have hd : (decide (z_hn (z_hv s 0 g) = 10 ∨ z_hn (z_hv s 0 g) ≠ z_hn (z_hv s 1 g)) && decide (z_hn (z_hv s 0 g) = 10 ∨ z_hn (z_hv s 0 g) ≠ z_hn (z_hv s 2 g)) && decide (z_hn (z_hv s 0 g) = 10 ∨ z_hn (z_hv s 0 g) ≠ z_hn (z_hv s 3 g)) && decide (z_hn (z_hv s 1 g) = 10 ∨ z_hn (z_hv s 1 g) ≠ z_hn (z_hv s 2 g)) && decide (z_hn (z_hv s 1 g) = 10 ∨ z_hn (z_hv s 1 g) ≠ z_hn (z_hv s 3 g)) && decide (z_hn (z_hv s 2 g) = 10 ∨ z_hn (z_hv s 2 g) ≠ z_hn (z_hv s 3 g))) = true := by
    simp only [Bool.and_eq_true, decide_eq_true_eq]
    exact ⟨⟨⟨⟨⟨dis 0 1 (by omega) (by omega) (by omega), dis 0 2 (by omega) (by omega) (by omega)⟩, dis 0 3 (by omega) (by omega) (by omega)⟩, dis 1 2 (by omega) (by omega) (by omega)⟩, dis 1 3 (by omega) (by omega) (by omega)⟩, dis 2 3 (by omega) (by omega) (by omega)⟩
  rw [hd] at u
  simp only [Bool.not_true, Bool.false_or, decide_eq_true_eq] at u
  have e1 : z_sm (fun l => z_HB s (z_I l) g 1) 10 = z_sm (fun l => if z_hn (z_hv s 0 g) = l ∨ z_hn (z_hv s 1 g) = l ∨ z_hn (z_hv s 2 g) = l ∨ z_hn (z_hv s 3 g) = l then 1 else 0) 10 := by
    refine z_sm_congr (fun l hl => ?_)
    unfold z_HB z_BO
    simp only [z_sm, Nat.zero_add, Nat.add_zero, ← a3 l hl, ← b3 l hl, ← c3 l hl, ← d3 l hl]
    by_cases p : z_hn (z_hv s 0 g) = l
    · simp [p]
    · by_cases q : z_hn (z_hv s 1 g) = l
      · simp [p, q]
      · by_cases r : z_hn (z_hv s 2 g) = l
        · simp [p, q, r]
        · by_cases w : z_hn (z_hv s 3 g) = l
          · simp [p, q, r, w]
          · simp [p, q, r, w]
  rw [e1, u]
  unfold z_LB
  simp only [z_sm, Nat.zero_add, a2, b2, c2, d2]
theorem z_S_PS {s : z_row} (O : z_OKs s) {g : Nat} (hg : g < 12) : z_S3 (z_PS s g) = z_S3 s + z_I (z_LB s g) ∧ z_S5 (z_PS s g) = z_S5 s + 0 := by
  have hK : z_Kp (z_SL s g 0 10) (z_PS s g) := by
    unfold z_PS
    split
    · exact z_Kp_upd (z_Kp_refl _) (by omega) (by omega) _
    · exact z_Kp_upd (z_Kp_upd (z_Kp_FI (z_Kp_upd (z_Kp_refl _) (by omega) (by omega) _)) (by omega) (by omega) _) (by omega) (by omega) _
  constructor
  · rw [z_S3_K hK, ← z_sumHB O hg]
    have e : ∀ l, l < 10 → z_SL s g 0 10 (6 * l + 3) = s (6 * l + 3) + z_I (z_HB s (z_I l) g 1) := fun l hl => by
      unfold z_SL; rw [if_pos (by omega), show (6 * l + 3) / 6 = l by omega]
    unfold z_S3
    have e0 := e 0 (by omega); have e1 := e 1 (by omega); have e2 := e 2 (by omega); have e3 := e 3 (by omega); have e4 := e 4 (by omega)
    have e5 := e 5 (by omega); have e6 := e 6 (by omega); have e7 := e 7 (by omega); have e8 := e 8 (by omega); have e9 := e 9 (by omega)
    simp only [Nat.reduceMul, Nat.reduceAdd] at e0 e1 e2 e3 e4 e5 e6 e7 e8 e9
    rw [e0, e1, e2, e3, e4, e5, e6, e7, e8, e9]
    simp only [z_sm, Nat.zero_add, ← z_I_add]
    grind
  · rw [z_S5_K hK, Int32.add_zero]
    unfold z_S5 z_SL
    rw [if_neg (by omega), if_neg (by omega), if_neg (by omega), if_neg (by omega)]

def z_inR (v : Int32) (a b : Nat) : Prop := ∃ k, a ≤ k ∧ k ≤ b ∧ v = z_I k
theorem z_inR_of {v : Int32} {a b : Nat} (hb : b < 1000) (ha : a ≤ b) (h : ¬ z_inR v a b) : v < z_I a ∨ (¬ v < z_I a ∧ z_I b < v) := by
  by_cases h1 : v < z_I a
  · exact Or.inl h1
  · right
    refine ⟨h1, ?_⟩
    apply Int32.not_le.mp
    intro h2
    apply h
    rw [Int32.lt_iff_toInt_lt, z_I_toInt (by omega)] at h1
    rw [Int32.le_iff_toInt_le, z_I_toInt (by omega)] at h2
    refine ⟨v.toInt.toNat, by omega, by omega, ?_⟩
    rw [← Int32.toInt_inj, z_I_toInt (by omega)]; omega
def z_WN (v w : Int32) : Prop := ∃ f n, v = z_I f ∧ w = z_I n ∧ f < 12 ∧ 1 ≤ n ∧ n ≤ 9 ∧ f + n ≤ 12
theorem z_lt_I {v : Int32} {a : Nat} (ha : a < 1000) : (z_I a < v) ↔ ((a : Int) < v.toInt) := by rw [Int32.lt_iff_toInt_lt, z_I_toInt (by omega)]
theorem z_c_within_bad {v w : Int32} (x : xS) (h : ¬ z_WN v w) : fX6_isWithinNight v w x = some 0 := by
  unfold fX6_isWithinNight fX6_isWithinNight_b0 fX6_isWithinNight_b33
  by_cases h1 : z_inR v 0 11
  · obtain ⟨f, _, hf, rfl⟩ := h1
    by_cases h2 : z_inR w 1 9
    · obtain ⟨n, z_hn, hn9, rfl⟩ := h2
      have h3 : ¬ f + n ≤ 12 := fun e => h ⟨f, n, rfl, rfl, by omega, z_hn, hn9, e⟩
      rw [if_neg (by rw [z_I_nn (by omega)]; exact id), if_neg (by rw [z_L12, z_I_le (by omega) (by omega)]; omega), if_neg (by rw [z_L1, z_I_lt (by omega) (by omega)]; omega), if_neg (by rw [z_L9, z_I_lt (by omega) (by omega)]; omega), z_I_add, if_pos (by rw [z_L12, z_I_lt (by omega) (by omega)]; omega)]
    · rw [if_neg (by rw [z_I_nn (by omega)]; exact id), if_neg (by rw [z_L12, z_I_le (by omega) (by omega)]; omega)]
      rcases z_inR_of (by omega) (by omega) h2 with h3 | ⟨h3, h4⟩
      · rw [if_pos (show w < 1 from h3)]
      · rw [if_neg (show ¬ w < 1 from h3), if_pos (show 9 < w from h4)]
  · rcases z_inR_of (by omega) (by omega) h1 with h3 | ⟨h3, h4⟩
    · rw [if_pos (show v < 0 from h3)]
    · rw [if_neg (show ¬ v < 0 from h3), if_pos]
      rw [Int32.le_iff_toInt_le]
      rw [z_lt_I (by omega)] at h4
      show (12 : Int) ≤ _
      omega
theorem z_c_within_ok {v w : Int32} (x : xS) (h : z_WN v w) : fX6_isWithinNight v w x = some 1 := by
  obtain ⟨f, n, rfl, rfl, a, b, c, d⟩ := h
  exact z_c_within_y x ⟨a, b, c, d⟩
theorem z_c_chkL_bad {v : Int32} (x : xS) (h : ¬ z_inR v 0 9) : fX6_checkLodger v x = some (Sum.inl 1) := by
  unfold fX6_checkLodger fX6_checkLodger_b0
  rcases z_inR_of (by omega) (by omega) h with h3 | ⟨h3, h4⟩
  · rw [if_pos (show v < 0 from h3)]
  · rw [if_neg (show ¬ v < 0 from h3), if_neg]
    rw [Int32.lt_iff_toInt_lt]
    rw [z_lt_I (by omega)] at h4
    show ¬ _ < (10 : Int)
    omega
theorem z_c_chkL_ok {l : Nat} (x : xS) (h : l < 10) : fX6_checkLodger (z_I l) x = some (Sum.inr ()) := by
  unfold fX6_checkLodger fX6_checkLodger_b0
  rw [if_neg (by rw [z_I_nn (by omega)]; exact id), if_pos (by rw [z_L10, z_I_lt (by omega) (by omega)]; exact h)]
theorem z_c_chkR_bad {v : Int32} {a b : Nat} (x : xS) (hb : b < 1000) (ha : a ≤ b) (h : ¬ z_inR v a b) : fX6_checkRange v (z_I a) (z_I b) x = some (Sum.inl 2) := by
  unfold fX6_checkRange fX6_checkRange_b0
  rcases z_inR_of (by omega) (by omega) h with h3 | ⟨h3, h4⟩
  · rw [if_pos h3]
  · rw [if_neg h3, if_neg (Int32.not_le.mpr h4)]
theorem z_c_chkR_ok {k a b : Nat} (x : xS) (hb : b < 1000) (ha : a ≤ k) (h : k ≤ b) : fX6_checkRange (z_I k) (z_I a) (z_I b) x = some (Sum.inr ()) := by
  unfold fX6_checkRange fX6_checkRange_b0
  rw [if_neg (by rw [z_I_lt (by omega) (by omega)]; omega), if_pos (by rw [z_I_le (by omega) (by omega)]; omega)]
theorem z_c_hour_bad {v : Int32} (x : xS) (h : ¬ z_inR v 0 11) : fX6_checkHour v x = some (Sum.inl 2) := by
  unfold fX6_checkHour fX6_checkHour_b0
  rw [show fX6_checkRange v 0 11 x = _ from z_c_chkR_bad (a := 0) (b := 11) x (by omega) (by omega) h, z_ob]
theorem z_c_hour_ok {k : Nat} (x : xS) (h : k ≤ 11) : fX6_checkHour (z_I k) x = some (Sum.inr ()) := by
  unfold fX6_checkHour fX6_checkHour_b0
  rw [show fX6_checkRange (z_I k) 0 11 x = _ from z_c_chkR_ok (a := 0) (b := 11) x (by omega) (by omega) h, z_ob]
theorem z_c_need_bad {v : Int32} (x : xS) (h : ¬ z_inR v 0 9) : fX6_checkNeed v x = some (Sum.inl 2) := by
  unfold fX6_checkNeed fX6_checkNeed_b0
  rw [show fX6_checkRange v 0 9 x = _ from z_c_chkR_bad (a := 0) (b := 9) x (by omega) (by omega) h, z_ob]
theorem z_c_need_ok {k : Nat} (x : xS) (h : k ≤ 9) : fX6_checkNeed (z_I k) x = some (Sum.inr ()) := by
  unfold fX6_checkNeed fX6_checkNeed_b0
  rw [show fX6_checkRange (z_I k) 0 9 x = _ from z_c_chkR_ok (a := 0) (b := 9) x (by omega) (by omega) h, z_ob]
theorem z_c_chkA_L {v w u : Int32} (x : xS) (h : ¬ z_inR v 0 9) : fX6_checkAsking v w u x = some (Sum.inl 1) := by
  unfold fX6_checkAsking fX6_checkAsking_b0
  rw [z_c_chkL_bad x h, z_ob]
theorem z_c_chkA_W {l : Nat} {w u : Int32} (x : xS) (h : l < 10) (h2 : ¬ z_WN w u) : fX6_checkAsking (z_I l) w u x = some (Sum.inl 2) := by
  unfold fX6_checkAsking fX6_checkAsking_b0
  rw [z_c_chkL_ok x h, z_ob]
  dsimp only
  rw [z_c_within_bad x h2, z_ob, if_pos rfl]
theorem z_c_chkA_ok {l : Nat} {w u : Int32} (x : xS) (h : l < 10) (h2 : z_WN w u) : fX6_checkAsking (z_I l) w u x = some (Sum.inr ()) := by
  unfold fX6_checkAsking fX6_checkAsking_b0
  rw [z_c_chkL_ok x h, z_ob]
  dsimp only
  rw [z_c_within_ok x h2, z_ob, if_neg (by decide)]
def z_gn (s : z_row) : Nat := (s 108).toNatClampNeg
theorem z_gn_ok {s : z_row} (O : z_OKs s) : z_gn s < 12 ∧ s 108 = z_I (z_gn s) := by
  obtain ⟨g, h, e⟩ := O.2.1
  unfold z_gn; rw [e, z_I_nat (by omega)]; exact ⟨h, rfl⟩
def z_CC (f : Option (Sum Nat (Int32 × xS))) (x : xS) (r : Int32) (s : z_row) (m : Nat) (sv : Nat → z_row) (kp : Nat → Bool) (sl : Nat → z_row) (len : Nat) (tx : Nat → Int32) : Prop := ∃ x', f = some (Sum.inr (r, x')) ∧ z_RelC x' s m sv kp sl len tx ∧ z_FrC x x'
theorem z_CC_of {f : xS → Option (Int32 × xS)} {x : xS} {r : Int32} {s s' : z_row} {m : Nat} {sv : Nat → z_row} {kp : Nat → Bool} {sl : Nat → z_row} {len : Nat} {tx : Nat → Int32} {a b : Int32} (R : z_RelC x s m sv kp sl len tx)
    (h : ∀ y, z_Ag y s → z_EnI (f y) y r s' a b) (h3 : z_S3 s' = z_S3 s + a) (h5 : z_S5 s' = z_S5 s + b) : z_CC (Option.bind (fX6_saveState 0 x) (fun r7 => Option.bind (f r7) (fun r17 => some (Sum.inr (r17.1, r17.2))))) x r s' (z_nM m) (z_nV m sv s) kp sl len tx := by
  obtain ⟨y, e, Ry, F⟩ := z_c_saveState R
  obtain ⟨z, ez, A, j⟩ := h y (z_House_1 Ry.1)
  exact ⟨z, by rw [e, z_ob, ez, z_ob], z_RelC_J Ry A j h3 h5, z_FrC_trans F (z_J_FrC j)⟩
section
variable {x : xS} {s : z_row} {m : Nat} {sv : Nat → z_row} {kp : Nat → Bool} {sl : Nat → z_row} {len : Nat} {tx : Nat → Int32}
theorem z_C_ask (R : z_RelC x s m sv kp sl len tx) (O : z_OKs s) {l f n : Nat} (hl : l < 10) (hf : f < 12) (h1 : 1 ≤ n) (h9 : n ≤ 9) (hh : f + n ≤ 12) : z_CC (fX6_ask 0 (z_I l) (z_I f) (z_I n) x) x (z_I (z_AN s l f n)) (z_TA s l f n (z_gn s)) (z_nM m) (z_nV m sv s) kp sl len tx := by
  obtain ⟨g1, g2⟩ := z_gn_ok O
  unfold fX6_ask fX6_ask_b0
  rw [z_c_chkA_ok x hl ⟨f, n, rfl, rfl, hf, h1, h9, hh⟩, z_ob]
  exact z_CC_of (f := fun r7 => fX3_takeAsking 1 (z_I l) (z_I f) (z_I n) r7) R (fun y A => z_c_takeAsking A O hl h1 hh g2 g1) (z_S_TA s hl h1 hh).1 (z_S_TA s hl h1 hh).2
theorem z_Kp_TBr (s : z_row) {l h : Nat} (hl : l < 10) (hh : h < 12) : z_Kp s (z_TBr s l h) := by
  unfold z_TBr
  split
  · exact z_Kp_upd (z_Kp_refl s) (by omega) (by omega) _
  · next e =>
    have hB := z_BO_le s (z_I l) h
    have hp := z_PE_le s (z_BO s (z_I l) h) h hh
    exact z_Kp_LE (z_Kp_refl s) (by omega) (by omega) _
theorem z_C_giveBack (R : z_RelC x s m sv kp sl len tx) {l h : Nat} (hl : l < 10) (hh : h < 12) : z_CC (fX6_giveBack 0 (z_I l) (z_I h) x) x (z_TBa s l h) (z_TBr s l h) (z_nM m) (z_nV m sv s) kp sl len tx := by
  unfold fX6_giveBack fX6_giveBack_b0
  rw [z_c_chkL_ok x hl, z_ob]
  dsimp only
  rw [z_c_hour_ok x (by omega), z_ob]
  exact z_CC_of (f := fun r7 => fX3_takeBack 1 (z_I l) (z_I h) r7) (a := 0) (b := 0) R (fun y A => z_c_takeBack A hl hh) (by rw [z_S3_K (z_Kp_TBr s hl hh), Int32.add_zero]) (by rw [z_S5_K (z_Kp_TBr s hl hh), Int32.add_zero])
theorem z_C_favour (R : z_RelC x s m sv kp sl len tx) {l : Nat} (hl : l < 10) : z_CC (fX6_favour 0 (z_I l) x) x (if s (6 * l + 2) < 3 then s (6 * l + 2) + 1 else -1) (if s (6 * l + 2) < 3 then upd s (6 * l + 2) (s (6 * l + 2) + 1) else upd s 118 (s 118 + 1)) (z_nM m) (z_nV m sv s) kp sl len tx := by
  unfold fX6_favour fX6_favour_b0
  rw [z_c_chkL_ok x hl, z_ob]
  have K : z_Kp s (if s (6 * l + 2) < 3 then upd s (6 * l + 2) (s (6 * l + 2) + 1) else upd s 118 (s 118 + 1)) := by
    split
    · exact z_Kp_upd (z_Kp_refl s) (by omega) (by omega) _
    · exact z_Kp_upd (z_Kp_refl s) (by omega) (by omega) _
  exact z_CC_of (f := fun r7 => fX3_giveFavour 1 (z_I l) r7) (a := 0) (b := 0) R (fun y A => z_c_giveFavour A hl) (by rw [z_S3_K K, Int32.add_zero]) (by rw [z_S5_K K, Int32.add_zero])
theorem z_C_need (R : z_RelC x s m sv kp sl len tx) {l v : Nat} (hl : l < 10) (z_hv : v ≤ 9) : z_CC (fX6_need 0 (z_I l) (z_I v) x) x (s (6 * l)) (upd s (6 * l) (z_I v)) (z_nM m) (z_nV m sv s) kp sl len tx := by
  unfold fX6_need fX6_need_b0
  rw [z_c_chkL_ok x hl, z_ob]
  dsimp only
  rw [z_c_need_ok x z_hv, z_ob]
  have K : z_Kp s (upd s (6 * l) (z_I v)) := z_Kp_upd (z_Kp_refl s) (by omega) (by omega) _
  exact z_CC_of (f := fun r7 => fX3_changeNeed 1 (z_I l) (z_I v) r7) (a := 0) (b := 0) R (fun y A => z_c_changeNeed A hl _) (by rw [z_S3_K K, Int32.add_zero]) (by rw [z_S5_K K, Int32.add_zero])
theorem z_C_set (R : z_RelC x s m sv kp sl len tx) {v : Nat} (z_hv : v ≤ 9) : z_CC (fX6_set 0 (z_I v) x) x (s 119) (upd s 119 (z_I v)) (z_nM m) (z_nV m sv s) kp sl len tx := by
  unfold fX6_set fX6_set_b0
  rw [z_c_need_ok x z_hv, z_ob]
  have K : z_Kp s (upd s 119 (z_I v)) := z_Kp_upd (z_Kp_refl s) (by omega) (by omega) _
  exact z_CC_of (f := fun r7 => fX3_changeSetting 1 (z_I v) r7) (a := 0) (b := 0) R (fun y A => z_c_changeSetting A _) (by rw [z_S3_K K, Int32.add_zero]) (by rw [z_S5_K K, Int32.add_zero])
theorem z_C_pass (R : z_RelC x s m sv kp sl len tx) (O : z_OKs s) (h : s 109 < 999) : z_CC (fX6_pass 0 x) x (z_I (z_LB s (z_gn s))) (z_PS s (z_gn s)) (z_nM m) (z_nV m sv s) kp sl len tx := by
  obtain ⟨g1, g2⟩ := z_gn_ok O
  unfold fX6_pass fX6_pass_b0
  rw [z_c_canLet (z_House_1 R.1), z_ob, if_pos h, if_neg (by decide)]
  exact z_CC_of (f := fun r7 => fX3_letHourGo 1 r7) R (fun y A => z_c_letHourGo A g2 g1) (z_S_PS O g1).1 (z_S_PS O g1).2
theorem z_C_pass_bad (R : z_RelC x s m sv kp sl len tx) (h : ¬ s 109 < 999) : fX6_pass 0 x = some (Sum.inl 3) := by
  unfold fX6_pass fX6_pass_b0
  rw [z_c_canLet (z_House_1 R.1), z_ob, if_neg h, if_pos rfl]
end
theorem z_or_in : ∀ l, l < 10 → ∀ M, M < 1024 → z_bt M l = 1 → M ||| 2 ^ l = M := by decide +kernel
theorem z_run_eq {s : z_row} {v : Int32} : ∀ d k i, i < z_run s v k d → s (k + i) = v := by
  intro d
  induction d with
  | zero => intro k i h; exact absurd h (Nat.not_lt_zero i)
  | succ d ih =>
    intro k i h
    simp only [z_run] at h
    by_cases e : s k = v
    · rw [if_pos e] at h
      cases i with
      | zero => exact e
      | succ i => have := ih (k + 1) i (by omega); rwa [show k + 1 + i = k + (i + 1) by omega] at this
    · rw [if_neg e] at h; exact absurd h (Nat.not_lt_zero i)
theorem z_run_stop {s : z_row} {v : Int32} : ∀ d k, z_run s v k d < d → s (k + z_run s v k d) ≠ v := by
  intro d
  induction d with
  | zero => intro k h; exact absurd h (Nat.not_lt_zero _)
  | succ d ih =>
    intro k h
    simp only [z_run] at h ⊢
    by_cases e : s k = v
    · rw [if_pos e] at h ⊢
      have := ih (k + 1) (by omega); rwa [show k + 1 + z_run s v (k + 1) d = k + (z_run s v (k + 1) d + 1) by omega] at this
    · rw [if_neg e] at h ⊢; exact e
theorem z_run_suf {s : z_row} {v : Int32} : ∀ i d k, i ≤ z_run s v k d → z_run s v (k + i) (d - i) = z_run s v k d - i := by
  intro i
  induction i with
  | zero => intro d k _; rfl
  | succ i ih =>
    intro d k h
    cases d with
    | zero => exact absurd h (by simp only [z_run]; omega)
    | succ d =>
      simp only [z_run] at h ⊢
      by_cases e : s k = v
      · rw [if_pos e] at h ⊢
        have := ih d (k + 1) (by omega)
        rw [show k + 1 + i = k + (i + 1) by omega] at this
        rw [show d + 1 - (i + 1) = d - i by omega, this]; omega
      · rw [if_neg e] at h; omega
theorem z_PE_in {s : z_row} {b h j : Nat} (h1 : h ≤ j) (h2 : j < z_PE s b h) : z_hv s b j = z_hv s b h := by
  by_cases e : j = h
  · rw [e]
  · have := z_run_eq (s := s) (v := z_hv s b h) (11 - h) (60 + 12 * b + h + 1) (j - h - 1) (by unfold z_PE at h2; omega)
    rw [show 60 + 12 * b + h + 1 + (j - h - 1) = 60 + 12 * b + j by omega] at this
    exact this
theorem z_PE_st {s : z_row} {b h : Nat} (hh : h < 12) (h2 : z_PE s b h < 12) : z_hv s b (z_PE s b h) ≠ z_hv s b h := by
  have := z_run_stop (s := s) (v := z_hv s b h) (11 - h) (60 + 12 * b + h + 1) (by unfold z_PE at h2; omega)
  rw [show 60 + 12 * b + h + 1 + z_run s (z_hv s b h) (60 + 12 * b + h + 1) (11 - h) = 60 + 12 * b + z_PE s b h by unfold z_PE; omega] at this
  exact this
theorem z_PE_eq {s : z_row} {b h j : Nat} (h1 : h ≤ j) (h2 : j < z_PE s b h) (hh : h < 12) : z_PE s b j = z_PE s b h := by
  have hp := z_PE_le s b h hh
  have e := z_PE_in h1 h2
  have := z_run_suf (s := s) (v := z_hv s b h) (j - h) (11 - h) (60 + 12 * b + h + 1) (by unfold z_PE at h2; omega)
  rw [show 60 + 12 * b + h + 1 + (j - h) = 60 + 12 * b + j + 1 by omega, show 11 - h - (j - h) = 11 - j by omega] at this
  unfold z_PE at h2 ⊢
  rw [e, this]; omega
theorem z_dn_in {s : z_row} {b : Nat} {v : Int32} : ∀ d j i, z_dn s b v j d ≤ i → i < j → z_hv s b i = v := by
  intro d
  induction d with
  | zero => intro j i h1 h2; simp only [z_dn] at h1; omega
  | succ d ih =>
    intro j i h1 h2
    simp only [z_dn] at h1
    by_cases e : z_hv s b (j - 1) = v
    · rw [if_pos e] at h1
      by_cases c : i = j - 1
      · rw [c]; exact e
      · exact ih (j - 1) i h1 (by omega)
    · rw [if_neg e] at h1; omega
theorem z_FS_in {s : z_row} {b f g i : Nat} (h1 : z_FS s b f g ≤ i) (h2 : i ≤ f) : z_hv s b i = z_hv s b f := by
  by_cases e : i = f
  · rw [e]
  · exact z_dn_in _ _ i h1 (by omega)
theorem z_dn_ge {s : z_row} {b : Nat} {v : Int32} : ∀ d j, d ≤ j → j - d ≤ z_dn s b v j d := by
  intro d
  induction d with
  | zero => intro j _; simp only [z_dn]; omega
  | succ d ih =>
    intro j h
    simp only [z_dn]
    split
    · have := ih (j - 1) (by omega); omega
    · omega
theorem z_LI_add (s : z_row) (b a d e : Nat) : z_LI s b a (d + e) = z_LI s b a d + z_LI s b (a + d) e := by
  unfold z_LI
  induction e with
  | zero => rfl
  | succ e ih => rw [← Nat.add_assoc]; simp only [z_sm]; rw [ih]; simp only [Nat.add_assoc]
theorem z_LI_k {s : z_row} {b a d : Nat} (h : ∀ i, a ≤ i → i < a + d → z_hv s b i ≠ -1) : z_LI s b a d = d := by
  unfold z_LI
  induction d with
  | zero => rfl
  | succ d ih => simp only [z_sm]; rw [ih (fun i h1 h2 => h i h1 (by omega)), if_neg (h (a + d) (by omega) (by omega))]
theorem z_LI_z {s : z_row} {b a d : Nat} (h : ∀ i, a ≤ i → i < a + d → z_hv s b i = -1) : z_LI s b a d = 0 := by
  unfold z_LI
  induction d with
  | zero => rfl
  | succ d ih => simp only [z_sm]; rw [ih (fun i h1 h2 => h i h1 (by omega)), if_pos (h (a + d) (by omega) (by omega))]
def z_Zr (s : z_row) (b st d w M : Nat) : z_row := z_PU (upd (upd (z_LE s b st d (-1)) 116 (s 116 + z_I w)) 115 (s 115 + z_I (z_bc M))) M 0 10
theorem z_Zr_hv {s : z_row} {b st d w M : Nat} (c j : Nat) (z_hc : c < 4) (hj : j < 12) (hb : b < 4) (hd : st + d ≤ 12) : z_hv (z_Zr s b st d w M) c j = if c = b ∧ st ≤ j ∧ j < st + d then -1 else z_hv s c j := by
  unfold z_Zr z_hv z_PU upd z_LE
  rw [if_neg (by omega), if_neg (by omega), if_neg (by omega)]
  by_cases h : c = b ∧ st ≤ j ∧ j < st + d
  · rw [if_pos h, if_pos (by obtain ⟨h1, h2, h3⟩ := h; subst h1; omega)]
  · rw [if_neg h, if_neg (by intro h2; apply h; omega)]
theorem z_Zr_o {s : z_row} {b st d w M : Nat} {k : Nat} (hk : 60 ≤ k) (hb : b < 4) (h : ¬ (60 + 12 * b + st ≤ k ∧ k < 60 + 12 * b + st + d)) (h1 : k ≠ 116) (h2 : k ≠ 115) : z_Zr s b st d w M k = s k := by
  unfold z_Zr z_PU upd z_LE
  rw [if_neg (by omega), if_neg h2, if_neg h1, if_neg h]
theorem z_Zr_l {s : z_row} {b st d w M : Nat} {l q : Nat} (hl : l < 10) (hq : q < 6) : z_Zr s b st d w M (6 * l + q) = if z_bt M l = 1 then (if q = 4 then s (6 * l + q) + 1 else if q = 1 then z_mi (s (6 * l + q)) else s (6 * l + q)) else s (6 * l + q) := by
  unfold z_Zr z_PU
  have e : upd (upd (z_LE s b st d (-1)) 116 (s 116 + z_I w)) 115 (s 115 + z_I (z_bc M)) (6 * l + q) = s (6 * l + q) := (if_neg (by omega)).trans ((if_neg (by omega)).trans (if_neg (by omega)))
  rw [e, show (6 * l + q) / 6 = l by omega, show (6 * l + q) % 6 = q by omega]
  by_cases h : z_bt M l = 1
  · rw [if_pos ⟨by omega, h⟩, if_pos h]
  · rw [if_neg (fun c => h c.2), if_neg h]
theorem z_Zr_116 (s : z_row) (b st d w M : Nat) : z_Zr s b st d w M 116 = s 116 + z_I w := by
  unfold z_Zr z_PU; rw [if_neg (by omega)]; exact (if_neg (by omega)).trans (if_pos rfl)
theorem z_Zr_115 (s : z_row) (b st d w M : Nat) : z_Zr s b st d w M 115 = s 115 + z_I (z_bc M) := by
  unfold z_Zr z_PU; rw [if_neg (by omega)]; exact if_pos rfl
theorem z_bt_or : ∀ l, l < 10 → ∀ k, k < 10 → ∀ M, M < 1024 → z_bt (M ||| 2 ^ l) k = if k = l then 1 else z_bt M k := by
  intro l hl k hk M hM
  have tb : ∀ N j, z_bt N j = if N.testBit j = true then 1 else 0 := fun N j => by
    unfold z_bt; rw [Nat.testBit_eq_decide_div_mod_eq]
    by_cases h : N / 2 ^ j % 2 = 1
    · simp [h]
    · have : N / 2 ^ j % 2 = 0 := by omega
      simp [this]
  rw [tb, tb, Nat.testBit_or, Nat.testBit_two_pow]
  by_cases h : k = l
  · subst h; simp
  · have : ¬ l = k := fun e => h e.symm
    simp [h, this]
theorem z_bc_or {l M : Nat} (hl : l < 10) (hM : M < 1024) (h : z_bt M l = 0) : z_bc (M ||| 2 ^ l) = z_bc M + 1 := by
  have e : ∀ k, k < 10 → z_bt (M ||| 2 ^ l) k = z_bt M k + (if k = l then 1 else 0) := fun k hk => by
    rw [z_bt_or l hl k hk M hM]; by_cases c : k = l
    · rw [if_pos c, if_pos c, c, h]
    · rw [if_neg c, if_neg c]; rfl
  have g : ∀ n, n ≤ 10 → z_sm (fun k => z_bt (M ||| 2 ^ l) k) n = z_sm (fun k => z_bt M k) n + (if l < n then 1 else 0) := by
    intro n
    induction n with
    | zero => intro _; simp [z_sm]
    | succ n ih =>
      intro z_hn
      simp only [z_sm]
      rw [ih (by omega), e n (by omega)]
      by_cases c : n = l
      · rw [if_pos c, if_neg (by omega), if_pos (by omega)]; omega
      · rw [if_neg c]
        by_cases c2 : l < n
        · rw [if_pos c2, if_pos (by omega)]; omega
        · rw [if_neg c2, if_neg (by omega)]; omega
  unfold z_bc; rw [g 10 (Nat.le_refl _), if_pos hl]
theorem z_fo_r {α : Type} (g : α → Nat → α) : ∀ d a j, z_fo g a j (d + 1) = g (z_fo g a j d) (j + d) := by
  intro d
  induction d with
  | zero => intro a j; rfl
  | succ d ih => intro a j; rw [show z_fo g a j (d + 1 + 1) = z_fo g (g a j) (j + 1) (d + 1) from rfl, ih]; rw [show j + 1 + d = j + (d + 1) by omega]; rfl
theorem z_MK_s (s : z_row) (b f i : Nat) : z_MK s b f (i + 1) = z_MK s b f i ||| z_hm (z_hv s b (f + i)) := z_fo_r _ _ _ _
def z_Ez (s : z_row) (b f g i : Nat) : Nat := if i = 0 then z_FS s b f g else z_PE s b (f + i - 1)
def z_Zi (s : z_row) (b f g i : Nat) : z_row := z_Zr s b (z_FS s b f g) (z_Ez s b f g i - z_FS s b f g) (z_LI s b (z_FS s b f g) (z_Ez s b f g i - z_FS s b f g)) (z_MK s b f i)
theorem z_MK_lt2 {s : z_row} (O : z_VH s) {b f i : Nat} (hb : b < 4) (hh : f + i ≤ 12) : z_MK s b f i < 1024 := z_MK_lt O hb i 0 f hh (by decide)
theorem z_updP (t : z_row) {a k : Nat} (h : k = a) (v : Int32) : upd t a v k = v := if_pos h
theorem z_updN (t : z_row) {a k : Nat} (h : k ≠ a) (v : Int32) : upd t a v k = t k := if_neg h
theorem z_LEP {t : z_row} {b f n k : Nat} {v : Int32} (h : 60 + 12 * b + f ≤ k ∧ k < 60 + 12 * b + f + n) : z_LE t b f n v k = v := if_pos h
theorem z_LEN {t : z_row} {b f n k : Nat} {v : Int32} (h : ¬ (60 + 12 * b + f ≤ k ∧ k < 60 + 12 * b + f + n)) : z_LE t b f n v k = t k := if_neg h
theorem z_PUo (t : z_row) (M : Nat) {k : Nat} (h : 60 ≤ k) : z_PU t M 0 10 k = t k := by unfold z_PU; rw [if_neg (by omega)]
theorem z_G8_Z (s : z_row) {l b f n g : Nat} (hl : l < 10) (hb : b < 4) (z_hn : 1 ≤ n) (hh : f + n ≤ 12) : z_G8 s l b f n g = upd (z_Zi s b f g n) (6 * l + 5) (z_Zi s b f g n (6 * l + 5) + 1) := by
  have E1 : z_EqH (z_GE s l) s := z_EqH_upd (by omega) _
  have eM : z_MK (z_GE s l) b f n = z_MK s b f n := z_MK_c E1 hb hh
  have E2 : z_EqH (z_CP (z_GE s l) (z_MK s b f n)) s := z_EqH_trans (z_EqH_PU _ _ _ _ (by omega)) (z_EqH_trans (z_EqH_upd (by omega) _) E1)
  have eF : z_FS (z_CP (z_GE s l) (z_MK s b f n)) b f g = z_FS s b f g := z_FS_c E2 hb (by omega)
  have eP : z_PE (z_CP (z_GE s l) (z_MK s b f n)) b (f + n - 1) = z_PE s b (f + n - 1) := z_PE_c E2 hb (by omega)
  have hF := z_FS_le s b f g
  have hP := z_PE_le s b (f + n - 1) (by omega)
  have eL : z_LI (z_CP (z_GE s l) (z_MK s b f n)) b (z_FS s b f g) (z_PE s b (f + n - 1) - z_FS s b f g) = z_LI s b (z_FS s b f g) (z_PE s b (f + n - 1) - z_FS s b f g) := z_LI_c E2 hb (by omega)
  have z5 : z_Zi s b f g n (6 * l + 5) = s (6 * l + 5) := by
    unfold z_Zi; rw [z_Zr_l hl (by omega)]; split <;> rfl
  unfold z_G8
  dsimp only
  rw [eM, eF, eP, eL, z5, z_LEN (k := 116) (by omega)]
  have eE : z_Ez s b f g n = z_PE s b (f + n - 1) := by unfold z_Ez; rw [if_neg (by omega)]
  unfold z_Zi
  rw [eE]
  generalize z_LI s b (z_FS s b f g) (z_PE s b (f + n - 1) - z_FS s b f g) = w
  have hd : z_FS s b f g + (z_PE s b (f + n - 1) - z_FS s b f g) ≤ 12 := by omega
  generalize z_PE s b (f + n - 1) - z_FS s b f g = d at *
  generalize z_FS s b f g = st at *
  generalize z_MK s b f n = M at *
  unfold z_CP z_GE z_Zr
  funext k
  by_cases h1 : k = 116
  · subst h1
    rw [z_updP _ rfl, z_PUo _ _ (show 60 ≤ 116 by omega), z_updN _ (show 116 ≠ 6 * l + 5 by omega), z_PUo _ _ (show 60 ≤ 116 by omega), z_updN _ (show 116 ≠ 115 by omega), z_updN _ (show 116 ≠ 6 * l + 5 by omega), z_updN _ (show 116 ≠ 115 by omega), z_updP _ rfl]
  · rw [z_updN _ h1]
    by_cases h2 : 60 + 12 * b + st ≤ k ∧ k < 60 + 12 * b + st + d
    · rw [z_LEP h2, z_updN _ (by omega), z_PUo _ _ (by omega), z_updN _ (by omega), z_updN _ h1, z_LEP h2]
    · rw [z_LEN h2]
      by_cases h3 : k = 6 * l + 5
      · rw [z_updP _ h3]
        unfold z_PU
        rw [z_updN _ (by omega), z_updP _ h3]
        split
        · rw [if_neg (by omega), if_neg (by omega)]
        · rfl
      · rw [z_updN _ h3]
        have e1 : upd (upd s (6 * l + 5) (s (6 * l + 5) + 1)) 115 ((upd s (6 * l + 5) (s (6 * l + 5) + 1)) 115 + z_I (z_bc M)) k = upd (upd (z_LE s b st d (-1)) 116 (s 116 + z_I w)) 115 (s 115 + z_I (z_bc M)) k := by
          by_cases h4 : k = 115
          · rw [z_updP _ h4, z_updP _ h4, z_updN _ (by omega)]
          · rw [z_updN _ h4, z_updN _ h4, z_updN _ h3, z_updN _ h1, z_LEN h2]
        unfold z_PU
        rw [e1]

theorem z_LI_0 {s : z_row} {b f n : Nat} : z_LI s b f n = 0 → ∀ j, f ≤ j → j < f + n → z_hv s b j = -1 := by
  induction n with
  | zero => intro _ j h1 h2; omega
  | succ n ih =>
    intro h j h1 h2
    unfold z_LI at h
    simp only [z_sm] at h
    by_cases c : j = f + n
    · subst c
      by_cases e : z_hv s b (f + n) = -1
      · exact e
      · rw [if_neg e] at h; omega
    · exact ih (by unfold z_LI; omega) j h1 (by omega)
theorem z_MK_z {s : z_row} {b f n : Nat} (h : ∀ j, f ≤ j → j < f + n → z_hv s b j = -1) : z_MK s b f n = 0 := by
  induction n with
  | zero => rfl
  | succ n ih => rw [z_MK_s, ih (fun j h1 h2 => h j h1 (by omega)), h (f + n) (by omega) (by omega)]; rfl
def z_WO (s : z_row) (l f n : Nat) : Nat := if 10 ≤ z_AN s l f n then z_MK s (z_AN s l f n - 10) f n else 0
section
variable {x x' : xS} {s s' : z_row} {m : Nat} {sv : Nat → z_row} {kp : Nat → Bool} {sl : Nat → z_row} {len : Nat} {tx : Nat → Int32}
def z_hc (s : z_row) (v : Int32) (g b : Nat) : Nat := z_sm (fun c => if z_hv s c g = v then 1 else 0) b
end
theorem z_sw48 (g : Nat → Nat) : z_sm g 48 = z_sm (fun h => z_sm (fun b => g (12 * b + h)) 4) 12 := by
  simp only [z_sm, Nat.reduceMul, Nat.reduceAdd]; omega
section
variable {x x' : xS} {s s' : z_row} {m : Nat} {sv : Nat → z_row} {kp : Nat → Bool} {sl : Nat → z_row} {len : Nat} {tx : Nat → Int32}
theorem z_LT_48 (s : z_row) : z_sm (fun k => if s (60 + k) = -1 then 0 else 1) 48 = z_LT s := by
  rw [z_sw48]; unfold z_LT z_LB z_hv
  simp only [Nat.add_assoc]
theorem z_LT_le (s : z_row) : z_LT s ≤ 48 := by rw [← z_LT_48]; exact z_sm_le (fun i _ => by split <;> omega)
def z_CT2 (s : z_row) (m k : Nat) : Int32 := if k = 11 then z_I m else z_CN s (z_S3 s) (z_S5 s) k
end
def z_ctb (s : z_row) (h b c : Nat) : Bool := !decide (z_hv s c h = -1) && (decide (c < b) || (decide (0 < h) && decide (z_hv s c (h - 1) = z_hv s c h)))
def z_CB (s : z_row) (h b t : Nat) : Nat := z_sm (fun c => if z_ctb s h b c = true ∧ t < z_PE s c h then 1 else 0) 4
def z_BU (bu : Nat → Nat) (t : Nat) : Nat := z_sm (fun i => if t < bu i then 1 else 0) 4
def z_updN' (f : Nat → Nat) (k v : Nat) : Nat → Nat := fun j => if j = k then v else f j
theorem z_sm4 (f : Nat → Nat) : z_sm f 4 = f 0 + f 1 + f 2 + f 3 := by simp only [z_sm, Nat.zero_add]
theorem z_BU_upd {bu : Nat → Nat} {i e h t : Nat} (hi : i < 4) (hb : bu i ≤ h) (ht : h ≤ t) : z_BU (z_updN' bu i e) t = z_BU bu t + (if t < e then 1 else 0) := by
  unfold z_BU z_updN'
  rw [z_sm4, z_sm4]
  rcases (by omega : i = 0 ∨ i = 1 ∨ i = 2 ∨ i = 3) with rfl | rfl | rfl | rfl
  · simp only [if_true, Nat.reduceEqDiff, if_false]; (repeat' split) <;> omega
  · simp only [if_true, Nat.reduceEqDiff, if_false]; (repeat' split) <;> omega
  · simp only [if_true, Nat.reduceEqDiff, if_false]; (repeat' split) <;> omega
  · simp only [if_true, Nat.reduceEqDiff, if_false]; (repeat' split) <;> omega
def z_lowF (bu : Nat → Nat) (h : Nat) : Nat := if bu 0 ≤ h then 0 else if bu 1 ≤ h then 1 else if bu 2 ≤ h then 2 else if bu 3 ≤ h then 3 else 4
theorem z_lowF_le (bu : Nat → Nat) (h : Nat) : z_lowF bu h ≤ z_BU bu h := by
  unfold z_lowF z_BU; rw [z_sm4]; (repeat' split) <;> omega
theorem z_lowF_fr {bu : Nat → Nat} {h : Nat} (hl : z_lowF bu h < 4) : bu (z_lowF bu h) ≤ h := by
  unfold z_lowF at hl ⊢
  by_cases h0 : bu 0 ≤ h
  · rw [if_pos h0]; exact h0
  · rw [if_neg h0] at hl ⊢
    by_cases h1 : bu 1 ≤ h
    · rw [if_pos h1]; exact h1
    · rw [if_neg h1] at hl ⊢
      by_cases h2 : bu 2 ≤ h
      · rw [if_pos h2]; exact h2
      · rw [if_neg h2] at hl ⊢
        by_cases h3 : bu 3 ≤ h
        · rw [if_pos h3]; exact h3
        · rw [if_neg h3] at hl; omega
theorem z_c_lay {x : xS} {bu : Nat → Nat} {h e : Nat} (hx : ∀ i, i < 4 → x.1 98 i = z_I (bu i)) (hb : ∀ i, i < 4 → bu i ≤ 12) (hh : h < 12) (hl : z_lowF bu h < 4) : fX1_lay 97 (z_I h) (z_I e) x = some (z_I (z_lowF bu h), up1 x 98 (z_lowF bu h) (z_I e)) := by
  unfold fX1_lay fX1_lay_b0
  have no : ∀ n i, i < 4 → ¬ bu i ≤ h → fX1_lay_b2 97 (z_I h) (z_I e) (n + 1) (z_I i) x = fX1_lay_b2 97 (z_I h) (z_I e) n (z_I (i + 1)) x := by
    intro n i hi z_hc
    have := hb i hi
    rw [fX1_lay_b2, if_neg (by show ¬ z_I 4 ≤ z_I i; rw [z_I_le (by omega) (by omega)]; omega), z_gd (show i < ln (97 + 1) from hi) (by decide), z_I_nat (by omega), show x.1 (97 + 1) i = z_I (bu i) from hx i hi, if_pos (by rw [z_I_lt (by omega) (by omega)]; omega), z_I_s]
  have yes : ∀ n i, i < 4 → bu i ≤ h → fX1_lay_b2 97 (z_I h) (z_I e) (n + 1) (z_I i) x = some (z_I i, up1 x 98 i (z_I e)) := by
    intro n i hi z_hc
    rw [fX1_lay_b2, if_neg (by show ¬ z_I 4 ≤ z_I i; rw [z_I_le (by omega) (by omega)]; omega), z_gd (show i < ln (97 + 1) from hi) (by decide), z_I_nat (by omega), show x.1 (97 + 1) i = z_I (bu i) from hx i hi, if_neg (by rw [z_I_lt (by omega) (by omega)]; omega)]
    have := z_gd (show i < ln (97 + 1) from hi) (by decide) (lt1 (up1 x (97 + 1) i (z_I e)) (fun x27 => some (z_I i, x27))) none
    rw [z_I_nat (by omega)] at this
    rw [this, z_lt_]
  rw [show fX1_lay_b2 97 (z_I h) (z_I e) FU 0 x = fX1_lay_b2 97 (z_I h) (z_I e) (1996 + 1 + 1 + 1 + 1) (z_I 0) x from rfl]
  unfold z_lowF at hl ⊢
  by_cases h0 : bu 0 ≤ h
  · rw [if_pos h0, yes _ 0 (by omega) h0]
  · rw [if_neg h0] at hl ⊢
    rw [no _ 0 (by omega) h0]
    by_cases h1 : bu 1 ≤ h
    · rw [if_pos h1, yes _ 1 (by omega) h1]
    · rw [if_neg h1] at hl ⊢
      rw [no _ 1 (by omega) h1]
      by_cases h2 : bu 2 ≤ h
      · rw [if_pos h2, yes _ 2 (by omega) h2]
      · rw [if_neg h2] at hl ⊢
        rw [no _ 2 (by omega) h2]
        by_cases h3 : bu 3 ≤ h
        · rw [if_pos h3, yes _ 3 (by omega) h3]
        · rw [if_neg h3] at hl; omega
def z_spb (s : z_row) (b h : Nat) : Bool := !decide (z_hv s b h = -1) && !(decide (0 < h) && decide (z_hv s b (h - 1) = z_hv s b h))
theorem z_c_startsPiece {x : xS} {s : z_row} (A : z_Ag x s) {b h : Nat} (hb : b < 4) (hh : h < 12) : fX4_startsPiece 2 (z_I b) (z_I h) x = some (if z_spb s b h = true then 1 else 0) := by
  unfold fX4_startsPiece fX4_startsPiece_b0 fX4_startsPiece_b34 z_spb
  rw [z_gH A hb hh, z_ob]
  by_cases e : z_hv s b h = -1
  · rw [if_pos e]; simp [e]
  · rw [if_neg e]
    by_cases h0 : h = 0
    · subst h0
      have : fX2_get (2 + 1) (z_I b) (z_I 0 - 1) x = some (-1) := by
        unfold fX2_get fX2_get_b0 fX2_get_b24
        rw [if_neg (by rw [z_I_nn (by omega)]; exact id), if_neg (by show ¬ z_I 4 ≤ z_I b; rw [z_I_le (by omega) (by omega)]; omega), if_pos (by decide)]
      rw [this, z_ob, if_neg e]; simp [e]
    · rw [show z_I h - 1 = z_I (h - 1) by rw [z_L1, z_I_sub (by omega)], show fX2_get (2 + 1) (z_I b) (z_I (h - 1)) x = _ from z_gH A hb (by omega), z_ob]
      have hp : 0 < h := by omega
      by_cases e2 : z_hv s b (h - 1) = z_hv s b h
      · rw [if_pos e2.symm]; simp [e, e2, hp]
      · rw [if_neg (fun w => e2 w.symm)]; simp [e, e2, hp]
theorem z_ctb_s {s : z_row} {h b : Nat} (hsp : z_spb s b h = true) : ∀ c, z_ctb s h (b + 1) c = (z_ctb s h b c || decide (c = b)) ∧ (z_ctb s h b b = false) := by
  intro c
  unfold z_spb at hsp
  unfold z_ctb
  simp only [Bool.and_eq_true, Bool.not_eq_true', decide_eq_false_iff_not] at hsp
  obtain ⟨h1, h2⟩ := hsp
  constructor
  · by_cases e : c = b
    · subst e; simp [h1]
    · have : (c < b + 1) = (c < b) := by rw [eq_iff_iff]; omega
      simp [this, e]
  · rw [h2]; simp
theorem z_ctb_n {s : z_row} {h b : Nat} (hsp : ¬ z_spb s b h = true) : ∀ c, z_ctb s h (b + 1) c = z_ctb s h b c := by
  intro c
  unfold z_ctb
  by_cases e : c = b
  · subst e
    unfold z_spb at hsp
    by_cases h1 : z_hv s c h = -1
    · simp [h1]
    · by_cases h2 : (decide (0 < h) && decide (z_hv s c (h - 1) = z_hv s c h)) = true
      · rw [h2]; simp
      · rw [Bool.not_eq_true] at h2
        rw [h2] at hsp; simp [h1] at hsp
  · have : (c < b + 1) = (c < b) := by rw [eq_iff_iff]; omega
    simp [this]
theorem z_CB_n {s : z_row} {h b t : Nat} (hsp : ¬ z_spb s b h = true) : z_CB s h (b + 1) t = z_CB s h b t := z_sm_congr (fun c _ => by rw [z_ctb_n hsp])
theorem z_CB_s {s : z_row} {h b t : Nat} (hb : b < 4) (hsp : z_spb s b h = true) : z_CB s h (b + 1) t = z_CB s h b t + (if t < z_PE s b h then 1 else 0) := by
  have h1 := fun c => (z_ctb_s hsp c).1
  have h2 := (z_ctb_s hsp 0).2
  unfold z_CB
  rw [z_sm4, z_sm4]
  simp only [h1]
  rcases (by omega : b = 0 ∨ b = 1 ∨ b = 2 ∨ b = 3) with rfl | rfl | rfl | rfl
  · simp [h2]; omega
  · simp [h2]; omega
  · simp [h2]; omega
  · simp [h2]
theorem z_CB_4 {s : z_row} {h : Nat} (hh : h < 12) : z_CB s h 4 h = z_LB s h := by
  unfold z_CB z_LB
  rw [z_sm4, z_sm4]
  have e : ∀ c, c < 4 → (if z_ctb s h 4 c = true ∧ h < z_PE s c h then 1 else 0) = (if z_hv s c h = -1 then 0 else 1) := by
    intro c z_hc
    have hp := (z_PE_le s c h hh).1
    unfold z_ctb
    by_cases e : z_hv s c h = -1
    · simp [e]
    · simp [e, z_hc, hp]
  rw [e 0 (by omega), e 1 (by omega), e 2 (by omega), e 3 (by omega)]
theorem z_CB_lt {s : z_row} {h b : Nat} (hb : b < 4) (hh : h < 12) (hsp : z_spb s b h = true) : z_CB s h b h + 1 ≤ z_LB s h := by
  have mono : ∀ b', z_CB s h b' h ≤ z_CB s h (b' + 1) h := fun b' => by
    unfold z_CB
    rw [z_sm4, z_sm4]
    have e : ∀ c, (if z_ctb s h b' c = true ∧ h < z_PE s c h then 1 else 0) ≤ (if z_ctb s h (b' + 1) c = true ∧ h < z_PE s c h then 1 else 0) := by
      intro c
      have : z_ctb s h b' c = true → z_ctb s h (b' + 1) c = true := by
        unfold z_ctb
        simp only [Bool.and_eq_true, Bool.or_eq_true, decide_eq_true_eq]
        rintro ⟨p, q | q⟩
        · exact ⟨p, Or.inl (by omega)⟩
        · exact ⟨p, Or.inr q⟩
      by_cases c1 : z_ctb s h b' c = true ∧ h < z_PE s c h
      · rw [if_pos c1, if_pos ⟨this c1.1, c1.2⟩]; omega
      · rw [if_neg c1]; omega
    have := e 0; have := e 1; have := e 2; have := e 3
    omega
  have h1 := z_CB_s (t := h) hb hsp
  rw [if_pos (z_PE_le s b h hh).1] at h1
  have h4 := z_CB_4 (s := s) hh
  have m0 := mono 1; have m1 := mono 2; have m2 := mono 3
  rcases (by omega : b = 0 ∨ b = 1 ∨ b = 2 ∨ b = 3) with rfl | rfl | rfl | rfl <;> simp only [Nat.reduceAdd, Nat.zero_add] at * <;> omega
theorem z_CB_next {s : z_row} {h t : Nat} (hh : h + 1 < 12) (ht : h + 1 ≤ t) : z_CB s h 4 t = z_CB s (h + 1) 0 t := by
  unfold z_CB
  rw [z_sm4, z_sm4]
  have e : ∀ c, c < 4 → (if z_ctb s h 4 c = true ∧ t < z_PE s c h then 1 else 0) = (if z_ctb s (h + 1) 0 c = true ∧ t < z_PE s c (h + 1) then 1 else 0) := by
    intro c z_hc
    have : (z_ctb s h 4 c = true ∧ t < z_PE s c h) ↔ (z_ctb s (h + 1) 0 c = true ∧ t < z_PE s c (h + 1)) := by
      unfold z_ctb
      simp only [Bool.and_eq_true, Bool.or_eq_true, decide_eq_true_eq, Bool.not_eq_true', decide_eq_false_iff_not, Nat.add_sub_cancel]
      constructor
      · rintro ⟨⟨p, _⟩, q⟩
        have e1 := z_PE_in (s := s) (b := c) (h := h) (j := h + 1) (by omega) (by omega)
        have e2 := z_PE_eq (s := s) (b := c) (h := h) (j := h + 1) (by omega) (by omega) (by omega)
        exact ⟨⟨by rw [e1]; exact p, Or.inr ⟨by omega, e1.symm⟩⟩, by rw [e2]; exact q⟩
      · rintro ⟨⟨p, q⟩, r⟩
        have e1 : z_hv s c h = z_hv s c (h + 1) := by
          rcases q with q | q
          · omega
          · exact q.2
        have hlt : h + 1 < z_PE s c h := by
          have hp := z_PE_le s c h (by omega)
          by_cases w : z_PE s c h = h + 1
          · have := z_PE_st (s := s) (b := c) (h := h) (by omega) (by omega)
            rw [w] at this; exact absurd e1.symm this
          · omega
        have e2 := z_PE_eq (s := s) (b := c) (h := h) (j := h + 1) (by omega) hlt (by omega)
        exact ⟨⟨by rw [e1]; exact p, Or.inl (by omega)⟩, by rw [← e2]; exact r⟩
    by_cases c1 : z_ctb s h 4 c = true ∧ t < z_PE s c h
    · rw [if_pos c1, if_pos (this.mp c1)]
    · rw [if_neg c1, if_neg (fun w => c1 (this.mpr w))]
  rw [e 0 (by omega), e 1 (by omega), e 2 (by omega), e 3 (by omega)]
theorem z_BU0_of {bu : Nat → Nat} {u h : Nat} (hz : ∀ i, u ≤ i → i < 4 → bu i = 0) (hu : u ≤ 4) : z_BU bu h ≤ u := by
  unfold z_BU
  rw [z_sm4]
  have z := fun i (h1 : u ≤ i) (h2 : i < 4) => hz i h1 h2
  have t : ∀ i, i < 4 → (if h < bu i then 1 else 0) ≤ (if i < u then 1 else 0) := by
    intro i hi
    by_cases c : i < u
    · rw [if_pos c]; split <;> omega
    · rw [hz i (by omega) hi, if_neg (by omega)]; omega
  have := t 0 (by omega); have := t 1 (by omega); have := t 2 (by omega); have := t 3 (by omega)
  have : (if 0 < u then 1 else 0) + (if 1 < u then 1 else 0) + (if 2 < u then 1 else 0) + (if 3 < u then 1 else 0) ≤ u := by (repeat' split) <;> omega
  omega
def z_XB (x y : xS) : Prop := (∀ j, j ≠ 98 → y.1 j = x.1 j) ∧ y.2 = x.2
theorem z_c_bedsFor {x : xS} {s : z_row} (A : z_Ag x s) : ∃ x', fX1_bedsFor 97 2 x = some (z_I (z_ML s), x') ∧ z_XB x x' := by
  unfold fX1_bedsFor fX1_bedsFor_b0
  rw [show fJ7_fill_53178 (97 + 1) 0 x = _ from z_fill_gen 98 0 (by decide) x, z_ob]
  have AgX : ∀ y, z_XB x y → z_Ag y s := fun y h k hk => by
    have := z_pr_m hk
    rw [h.1 _ (by omega)]; exact A k hk
  have q2 : ∀ h, h < 12 → ∀ k12 M, M ≤ 4 → ∀ d n b u y bu, b + d = 4 → d < n → z_XB x y → (∀ i, i < 4 → y.1 98 i = z_I (bu i)) → (∀ i, i < 4 → bu i ≤ 12) → (∀ i, u ≤ i → i < 4 → bu i = 0) → u ≤ 4 → M ≤ u → (u ≤ M ∨ u ≤ z_LB s h) → (∀ t, h ≤ t → z_BU bu t = z_CB s h b t) →
      ∃ y' bu', fX1_bedsFor_b21 k12 97 2 n (z_I u) (z_I h) (z_I b) y = k12 (z_I (if M < z_LB s h then z_LB s h else M)) (z_I (h + 1)) y' ∧ z_XB x y' ∧ (∀ i, i < 4 → y'.1 98 i = z_I (bu' i)) ∧ (∀ i, i < 4 → bu' i ≤ 12) ∧ (∀ i, (if M < z_LB s h then z_LB s h else M) ≤ i → i < 4 → bu' i = 0) ∧ (∀ t, h ≤ t → z_BU bu' t = z_CB s h 4 t) := by
    intro h hh k12 M hM d
    induction d with
    | zero =>
      intro n b u y bu hb z_hn X h98 h12 hz hu hMu hor hI
      obtain ⟨n, rfl⟩ : ∃ k, n = k + 1 := ⟨n - 1, by omega⟩
      have : b = 4 := by omega
      subst this
      have e1 := hI h (Nat.le_refl h)
      rw [z_CB_4 hh] at e1
      have e2 := z_BU0_of (h := h) hz hu
      have eu : u = (if M < z_LB s h then z_LB s h else M) := by split <;> omega
      rw [fX1_bedsFor_b21, if_pos (by decide), z_I_s, ← eu]
      exact ⟨y, bu, rfl, X, h98, h12, hz, hI⟩
    | succ d ih =>
      intro n b u y bu hb z_hn X h98 h12 hz hu hMu hor hI
      obtain ⟨n, rfl⟩ : ∃ k, n = k + 1 := ⟨n - 1, by omega⟩
      have Ay := AgX y X
      rw [fX1_bedsFor_b21, if_neg (by rw [z_L4, z_I_le (by omega) (by omega)]; omega), z_c_startsPiece Ay (by omega) hh, z_ob]
      unfold fX1_bedsFor_b56
      rw [z_I_s]
      by_cases sp : z_spb s b h = true
      · rw [if_pos sp, if_neg (by decide), z_c_pieceEnd Ay (by omega) hh, z_ob]
        have z_hc := z_CB_lt (by omega) hh sp
        have hLB := z_LB_le s h
        have hlf : z_lowF bu h < 4 := by have := z_lowF_le bu h; rw [hI h (Nat.le_refl h)] at this; omega
        have hl2 : z_lowF bu h + 1 ≤ z_LB s h := by have := z_lowF_le bu h; rw [hI h (Nat.le_refl h)] at this; omega
        have hfr := z_lowF_fr hlf
        have hp := z_PE_le s b h hh
        rw [z_c_lay h98 h12 hh hlf, z_ob]
        dsimp only
        rw [z_I_s]
        have eu : (if z_I u < z_I (z_lowF bu h + 1) then z_I (z_lowF bu h + 1) else z_I u) = z_I (if u < z_lowF bu h + 1 then z_lowF bu h + 1 else u) := by
          by_cases c : u < z_lowF bu h + 1
          · rw [if_pos (by rw [z_I_lt (by omega) (by omega)]; exact c), if_pos c]
          · rw [if_neg (by rw [z_I_lt (by omega) (by omega)]; exact c), if_neg c]
        rw [eu, z_lt_]
        apply ih n (b + 1) (if u < z_lowF bu h + 1 then z_lowF bu h + 1 else u) _ (z_updN' bu (z_lowF bu h) (z_PE s b h)) (by omega) (by omega)
        · exact ⟨fun j hj => by rw [z_up1_o _ _ _ hj]; exact X.1 j hj, X.2⟩
        · intro i hi
          rw [z_up1_at]; unfold z_updN'
          by_cases c : i = z_lowF bu h
          · rw [if_pos ⟨rfl, c⟩, if_pos c]
          · rw [if_neg (fun w => c w.2), if_neg c]; exact h98 i hi
        · intro i hi; unfold z_updN'; split
          · omega
          · exact h12 i hi
        · intro i h1 h2
          unfold z_updN'
          rw [if_neg (by revert h1; split <;> omega)]
          exact hz i (by revert h1; split <;> omega) h2
        · split <;> omega
        · split <;> omega
        · split <;> omega
        · intro t ht
          rw [z_BU_upd hlf hfr ht, hI t ht, z_CB_s (by omega) sp]
      · rw [if_neg sp, if_pos rfl]
        exact ih n (b + 1) u y bu (by omega) (by omega) X h98 h12 hz hu hMu hor (fun t ht => by rw [hI t ht, z_CB_n sp])
  have q1 : ∀ d n h M y bu, h + d = 12 → d < n → z_XB x y → M ≤ 4 → (∀ i, i < 4 → y.1 98 i = z_I (bu i)) → (∀ i, i < 4 → bu i ≤ 12) → (∀ i, M ≤ i → i < 4 → bu i = 0) → (h < 12 → ∀ t, h ≤ t → z_BU bu t = z_CB s h 0 t) → ∃ y', fX1_bedsFor_b12 97 2 n (z_I M) (z_I h) y = some (z_I (z_fo (fun a h => if a < z_LB s h then z_LB s h else a) M h d), y') ∧ z_XB x y' := by
    intro d
    induction d with
    | zero =>
      intro n h M y bu hd z_hn X hM h98 h12 hz hI
      obtain ⟨n, rfl⟩ : ∃ k, n = k + 1 := ⟨n - 1, by omega⟩
      rw [fX1_bedsFor_b12, if_pos (by rw [z_L12, z_I_le (by omega) (by omega)]; omega)]
      exact ⟨y, rfl, X⟩
    | succ d ih =>
      intro n h M y bu hd z_hn X hM h98 h12 hz hI
      obtain ⟨n, rfl⟩ : ∃ k, n = k + 1 := ⟨n - 1, by omega⟩
      rw [fX1_bedsFor_b12, if_neg (by rw [z_L12, z_I_le (by omega) (by omega)]; omega)]
      obtain ⟨y', bu', e, X', g98, g12, gz, gI⟩ := q2 h (by omega) (fX1_bedsFor_b12 97 2 n) M hM 4 FU 0 M y bu (by omega) (by decide) X h98 h12 hz hM (Nat.le_refl M) (Or.inl (Nat.le_refl M)) (hI (by omega))
      rw [show fX1_bedsFor_b21 (fX1_bedsFor_b12 97 2 n) 97 2 FU (z_I M) (z_I h) 0 y = _ from e]
      have hLB := z_LB_le s h
      obtain ⟨z, ez, Xz⟩ := ih n (h + 1) (if M < z_LB s h then z_LB s h else M) y' bu' (by omega) (by omega) X' (by split <;> omega) g98 g12 gz (fun hlt t ht => by rw [gI t (by omega), z_CB_next hlt ht])
      exact ⟨z, ez, Xz⟩
  obtain ⟨y, ey, Xy⟩ := q1 12 FU 0 0 (upR x 98 (fun k => if k < ln 98 then 0 else x.1 98 k)) (fun _ => 0) (by omega) (by decide) ⟨fun j hj => if_neg hj, rfl⟩ (by omega) (fun i hi => by rw [z_upR_at, if_pos rfl, if_pos (show i < ln 98 from hi)]; rfl) (fun i _ => Nat.zero_le _) (fun i _ _ => rfl) (fun _ t _ => by
    unfold z_BU z_CB z_ctb
    rw [z_sm4, z_sm4]; simp)
  exact ⟨y, ey, Xy⟩

section
variable {x x' : xS} {s s' : z_row} {m : Nat} {sv : Nat → z_row} {kp : Nat → Bool} {sl : Nat → z_row} {len : Nat} {tx : Nat → Int32}
theorem z_c_accountOf (R : z_RelC x s m sv kp sl len tx) {k : Nat} (hk : k < 12) : fX6_accountOf 0 (z_I k) x = some (z_CT2 s m k) := by
  unfold fX6_accountOf fX6_accountOf_b0 z_CT2
  by_cases c : k = 11
  · subst c
    obtain ⟨nx, _, _, h, _⟩ := R.2.1
    rw [if_pos (by decide), if_pos rfl, h]
  · rw [if_neg (by rw [z_L11, z_I_eq (by omega) (by omega)]; exact c), if_neg c, show fX3_account (0 + 1) (z_I k) x = _ from z_c_account (z_House_1 R.1) (by omega), z_ob]
    have h3 := R.1.2.1
    have h5 := R.1.2.2
    rw [show x.1 8 3 = z_S3 s from h3, show x.1 8 5 = z_S5 s from h5]
theorem z_C_poorest (R : z_RelC x s m sv kp sl len tx) (O : z_OKs s) : fX6_poorest 0 x = some (z_I (z_RM s)) := by
  unfold fX6_poorest fX6_poorest_b0
  rw [show fX3_poorestLodger (0 + 1) x = _ from z_c_poorest (z_House_1 R.1) O, z_ob]
theorem z_RelC_XB (R : z_RelC x s m sv kp sl len tx) (h : z_XB x x') : z_RelC x' s m sv kp sl len tx ∧ z_FrC x x' := by
  refine ⟨⟨z_House_fr (by omega) (fun i a b => h.1 i (by omega)) R.1, z_RS_fr (fun i a => h.1 i (by omega)) R.2.1, z_RK_fr (fun i a => h.1 i (by omega)) R.2.2.1, z_RT_fr (fun i a => h.1 i (by omega)) R.2.2.2⟩, h.2, fun i hi => h.1 i (by omega)⟩
def z_shr (n : Nat) : UInt64 := FP.ddiv (FP.i2d (z_I n)) (4631952216750555136 : UInt64)
set_option maxRecDepth 100000 in
theorem z_shr_ok : ∀ n, n < 49 → (z_shr n &&& 0x7fffffffffffffff ≤ (0x7ff0000000000000 : UInt64)) := by decide +kernel
theorem z_c_share (A : z_Ag x s) : fX3_shareLent 1 x = some (z_shr (z_LT s)) := by
  unfold fX3_shareLent fX3_shareLent_b0
  have := z_LT_le s
  rw [show fX4_lentHours (1 + 1) x = _ from z_c_lentHours A, z_ob]
  exact if_pos (z_shr_ok (z_LT s) (by omega))
theorem z_C_fullness (R : z_RelC x s m sv kp sl len tx) : fX6_fullness 0 x = some (z_shr (z_LT s)) := by
  unfold fX6_fullness fX6_fullness_b0
  rw [show fX3_shareLent (0 + 1) x = _ from z_c_share (z_House_1 R.1), z_ob]
end
def z_SubH (t s : z_row) : Prop := ∀ k, 60 ≤ k → k < 108 → t k = s k ∨ t k = -1
def z_LodOK (t : z_row) : Prop := ∀ l, l < 10 → (∃ a, a < 10 ∧ t (6 * l) = z_I a) ∧ (∃ a, a < 8 ∧ t (6 * l + 1) = z_I a) ∧ (∃ a, a < 4 ∧ t (6 * l + 2) = z_I a)
theorem z_OK_sub {s t : z_row} (O : z_OKs s) (hH : z_SubH t s) (h108 : ∃ g, g < 12 ∧ t 108 = z_I g) (hL : z_LodOK t) (h109 : ∃ n, n < 1000 ∧ t 109 = z_I n) (h119 : ∃ n, n < 10 ∧ t 119 = z_I n) : z_OKs t := by
  refine ⟨fun k hk => ?_, h108, hL, h109, h119, fun h hh b hb c z_hc e hne => ?_⟩
  · rcases hH (60 + k) (by omega) (by omega) with e | e
    · rw [e]; exact O.1 k hk
    · exact Or.inl e
  · have hb1 : z_hv t b h = z_hv s b h := by
      rcases hH (60 + 12 * b + h) (by omega) (by omega) with e1 | e1
      · exact e1
      · exact absurd e1 hne
    have hc1 : z_hv t c h = z_hv s c h := by
      rcases hH (60 + 12 * c + h) (by omega) (by omega) with e1 | e1
      · exact e1
      · exact absurd (e.trans e1) hne
    exact O.2.2.2.2.2 h hh b hb c z_hc (by rw [← hb1, ← hc1]; exact e) (by rw [← hb1]; exact hne)
theorem z_SubH_refl (s : z_row) : z_SubH s s := fun _ _ _ => Or.inl rfl
theorem z_SubH_t {s t u : z_row} (h : z_SubH u t) (k : z_SubH t s) : z_SubH u s := fun i a b => by
  rcases h i a b with e | e
  · rw [e]; exact k i a b
  · exact Or.inr e
theorem z_SubH_E {s t : z_row} (h : z_EqH t s) : z_SubH t s := fun i a b => Or.inl (h i a b)
theorem z_SubH_LE (s : z_row) (b f d : Nat) : z_SubH (z_LE s b f d (-1)) s := fun k h1 h2 => by
  unfold z_LE; split
  · exact Or.inr rfl
  · exact Or.inl rfl
theorem z_OK_eq {s t : z_row} (O : z_OKs s) (hH : z_SubH t s) (h : ∀ k, (k < 60 ∧ k % 6 < 3) ∨ k = 108 ∨ k = 109 ∨ k = 119 → t k = s k) : z_OKs t := by
  obtain ⟨g, hg, eg⟩ := O.2.1
  obtain ⟨n, z_hn, en⟩ := O.2.2.2.1
  obtain ⟨q, hq, eq⟩ := O.2.2.2.2.1
  refine z_OK_sub O hH ⟨g, hg, by rw [h 108 (by omega)]; exact eg⟩ (fun l hl => ?_) ⟨n, z_hn, by rw [h 109 (by omega)]; exact en⟩ ⟨q, hq, by rw [h 119 (by omega)]; exact eq⟩
  rw [h (6 * l) (by omega), h (6 * l + 1) (by omega), h (6 * l + 2) (by omega)]
  exact O.2.2.1 l hl
theorem z_OK_upd {s : z_row} (O : z_OKs s) {k : Nat} (hk : ¬ ((k < 60 ∧ k % 6 < 3) ∨ (60 ≤ k ∧ k < 110) ∨ k = 119)) (v : Int32) : z_OKs (upd s k v) :=
  z_OK_eq O (z_SubH_E (z_EqH_upd (by omega) v)) (fun j hj => z_updN _ (by omega) _)
theorem z_OK_LE {s : z_row} (O : z_OKs s) {b f d : Nat} (hb : b < 4) (hh : f + d ≤ 12) : z_OKs (z_LE s b f d (-1)) :=
  z_OK_eq O (z_SubH_LE s b f d) (fun j hj => z_LEN (by omega))
theorem z_OK_updL {s : z_row} (O : z_OKs s) {l w : Nat} (hl : l < 10) (hw : w < 3) {v : Int32} (z_hv : (w = 0 → ∃ a, a < 10 ∧ v = z_I a) ∧ (w = 1 → ∃ a, a < 8 ∧ v = z_I a) ∧ (w = 2 → ∃ a, a < 4 ∧ v = z_I a)) : z_OKs (upd s (6 * l + w) v) := by
  obtain ⟨g, hg, eg⟩ := O.2.1
  obtain ⟨n, z_hn, en⟩ := O.2.2.2.1
  obtain ⟨q, hq, eq⟩ := O.2.2.2.2.1
  refine z_OK_sub O (z_SubH_E (z_EqH_upd (by omega) v)) ⟨g, hg, by rw [z_updN _ (by omega)]; exact eg⟩ (fun j hj => ?_) ⟨n, z_hn, by rw [z_updN _ (by omega)]; exact en⟩ ⟨q, hq, by rw [z_updN _ (by omega)]; exact eq⟩
  obtain ⟨o1, o2, o3⟩ := O.2.2.1 j hj
  by_cases c : j = l
  · subst c
    rcases (by omega : w = 0 ∨ w = 1 ∨ w = 2) with rfl | rfl | rfl
    · exact ⟨by rw [z_updP _ (by omega)]; exact z_hv.1 rfl, by rw [z_updN _ (by omega)]; exact o2, by rw [z_updN _ (by omega)]; exact o3⟩
    · exact ⟨by rw [z_updN _ (by omega)]; exact o1, by rw [z_updP _ (by omega)]; exact z_hv.2.1 rfl, by rw [z_updN _ (by omega)]; exact o3⟩
    · exact ⟨by rw [z_updN _ (by omega)]; exact o1, by rw [z_updN _ (by omega)]; exact o2, by rw [z_updP _ (by omega)]; exact z_hv.2.2 rfl⟩
  · exact ⟨by rw [z_updN _ (by omega)]; exact o1, by rw [z_updN _ (by omega)]; exact o2, by rw [z_updN _ (by omega)]; exact o3⟩
theorem z_mi_ok : ∀ a, a < 8 → ∃ c, c < 8 ∧ z_mi (z_I a) = z_I c := by
  intro a ha
  refine ⟨if a < 6 then a + 1 else 7, by split <;> omega, ?_⟩
  revert a; decide
theorem z_OK_mi {s : z_row} (O : z_OKs s) {l : Nat} (hl : l < 10) : ∃ c, c < 8 ∧ z_mi (s (6 * l + 1)) = z_I c := by
  obtain ⟨a, ha, ea⟩ := (O.2.2.1 l hl).2.1
  rw [ea]; exact z_mi_ok a ha
theorem z_OK_RF {s : z_row} (O : z_OKs s) {l r : Nat} (hl : l < 10) (h1 : 1 ≤ r) (h4 : r ≤ 4) : z_OKs (z_RF s l r) := by
  have O1 := z_OK_upd O (k := 110 + r) (by omega) (s (110 + r) + 1)
  unfold z_RF
  split
  · exact z_OK_updL O1 hl (w := 1) (by omega) ⟨by omega, fun _ => z_OK_mi O hl, by omega⟩
  · exact O1
theorem z_OK_PU {s : z_row} (O : z_OKs s) (M : Nat) : z_OKs (z_PU s M 0 10) := by
  obtain ⟨g, hg, eg⟩ := O.2.1
  obtain ⟨n, z_hn, en⟩ := O.2.2.2.1
  obtain ⟨q, hq, eq⟩ := O.2.2.2.2.1
  refine z_OK_sub O (z_SubH_E (z_EqH_PU s M 0 10 (by omega))) ⟨g, hg, by rw [z_PUo _ _ (by omega)]; exact eg⟩ (fun j hj => ?_) ⟨n, z_hn, by rw [z_PUo _ _ (by omega)]; exact en⟩ ⟨q, hq, by rw [z_PUo _ _ (by omega)]; exact eq⟩
  obtain ⟨o1, o2, o3⟩ := O.2.2.1 j hj
  have e0 : z_PU s M 0 10 (6 * j) = s (6 * j) := by
    unfold z_PU; split
    · rw [if_neg (by omega), if_neg (by omega)]
    · rfl
  have e2 : z_PU s M 0 10 (6 * j + 2) = s (6 * j + 2) := by
    unfold z_PU; split
    · rw [if_neg (by omega), if_neg (by omega)]
    · rfl
  have e1 : z_PU s M 0 10 (6 * j + 1) = s (6 * j + 1) ∨ z_PU s M 0 10 (6 * j + 1) = z_mi (s (6 * j + 1)) := by
    unfold z_PU; split
    · rw [if_neg (by omega), if_pos (by omega)]; exact Or.inr rfl
    · exact Or.inl rfl
  refine ⟨by rw [e0]; exact o1, ?_, by rw [e2]; exact o3⟩
  rcases e1 with e | e
  · rw [e]; exact o2
  · rw [e]; exact z_OK_mi O hj
theorem z_OK_lend {s : z_row} (O : z_OKs s) {b f n l : Nat} (hb : b < 4) (hh : f + n ≤ 12) (hl : l < 10) (hno : ∀ c j, c < 4 → f ≤ j → j < f + n → z_hv s c j ≠ z_I l) : z_OKs (z_LE s b f n (z_I l)) := by
  have hvL : ∀ c j, c < 4 → j < 12 → z_hv (z_LE s b f n (z_I l)) c j = if c = b ∧ f ≤ j ∧ j < f + n then z_I l else z_hv s c j := by
    intro c j z_hc hj
    unfold z_hv z_LE
    by_cases q : c = b ∧ f ≤ j ∧ j < f + n
    · rw [if_pos q, if_pos (by obtain ⟨q1, q2, q3⟩ := q; subst q1; omega)]
    · rw [if_neg q, if_neg (by intro w; apply q; omega)]
  refine ⟨fun k hk => ?_, ?_, fun j hj => ?_, ?_, ?_, fun h hh2 c z_hc d hd e hne => ?_⟩
  · unfold z_LE; split
    · exact Or.inr ⟨l, hl, rfl⟩
    · exact O.1 k hk
  · rw [z_LEN (by omega)]; exact O.2.1
  · rw [z_LEN (by omega), z_LEN (by omega), z_LEN (by omega)]; exact O.2.2.1 j hj
  · rw [z_LEN (by omega)]; exact O.2.2.2.1
  · rw [z_LEN (by omega)]; exact O.2.2.2.2.1
  · rw [hvL c h z_hc hh2] at e hne
    rw [hvL d h hd hh2] at e
    by_cases q1 : c = b ∧ f ≤ h ∧ h < f + n
    · by_cases q2 : d = b ∧ f ≤ h ∧ h < f + n
      · omega
      · rw [if_pos q1, if_neg q2] at e
        exact absurd e.symm (hno d h hd q1.2.1 q1.2.2)
    · rw [if_neg q1] at e hne
      by_cases q2 : d = b ∧ f ≤ h ∧ h < f + n
      · rw [if_pos q2] at e
        exact absurd e (hno c h z_hc q2.2.1 q2.2.2)
      · rw [if_neg q2] at e
        exact O.2.2.2.2.2 h hh2 c z_hc d hd e hne
theorem z_HB_0 {s : z_row} {v : Int32} {f n : Nat} : z_HB s v f n = 0 → ∀ j, f ≤ j → j < f + n → z_BO s v j = 4 := by
  induction n with
  | zero => intro _ j h1 h2; omega
  | succ n ih =>
    intro h j h1 h2
    unfold z_HB at h
    simp only [z_sm] at h
    by_cases c : j = f + n
    · subst c
      by_cases e : z_BO s v (f + n) = 4
      · exact e
      · rw [if_neg e] at h; omega
    · exact ih (by unfold z_HB; omega) j h1 (by omega)
theorem z_BO_no {s : z_row} {v : Int32} {j : Nat} (h : z_BO s v j = 4) : ∀ c, c < 4 → z_hv s c j ≠ v := by
  intro c z_hc e
  unfold z_BO at h
  rcases (by omega : c = 0 ∨ c = 1 ∨ c = 2 ∨ c = 3) with rfl | rfl | rfl | rfl
  · revert h; (repeat' split) <;> first | omega | contradiction
  · revert h; (repeat' split) <;> first | omega | contradiction
  · revert h; (repeat' split) <;> first | omega | contradiction
  · revert h; (repeat' split) <;> first | omega | contradiction
theorem z_OK_GZ {s t : z_row} (O : z_OKs t) (hS : z_SubH t s) {l b f n : Nat} (hl : l < 10) (hb : b < 4) (hh : f + n ≤ 12) (hno : ∀ c j, c < 4 → f ≤ j → j < f + n → z_hv s c j ≠ z_I l) : z_OKs (z_GZ t l b f n) := by
  have n1 : z_I l ≠ -1 := by rw [Ne, z_I_n1 (by omega)]; exact id
  unfold z_GZ
  refine z_OK_upd (z_OK_lend (z_OK_updL O hl (w := 1) (by omega) ⟨by omega, fun _ => ⟨0, by omega, rfl⟩, by omega⟩) hb hh hl (fun c j z_hc h1 h2 => ?_)) (by omega) _
  rw [z_hv_c (z_EqH_upd (by omega) _) z_hc (by omega)]
  rcases hS (60 + 12 * c + j) (by omega) (by omega) with e | e
  · rw [show z_hv t c j = z_hv s c j from e]; exact hno c j z_hc h1 h2
  · rw [show z_hv t c j = -1 from e]; exact fun w => n1 w.symm
theorem z_fm1 : ∀ a, a < 4 → a ≠ 0 → ∃ c, c < 4 ∧ z_I a + (-1) = z_I c := by
  intro a ha h0
  refine ⟨a - 1, by omega, ?_⟩
  revert a; decide
theorem z_OK_TA {s : z_row} (O : z_OKs s) {l f n g : Nat} (hl : l < 10) (z_hn : 1 ≤ n) (hh : f + n ≤ 12) : z_OKs (z_TA s l f n g) := by
  have h1 := z_AN_lt s l f n
  have h2 := z_AN_13 s l f n
  unfold z_TA
  by_cases h : 10 ≤ z_AN s l f n
  · rw [if_pos h]
    have hb : z_AN s l f n - 10 < 4 := by omega
    have hHB : z_HB s (z_I l) f n = 0 := by
      unfold z_AN at h
      by_cases c : z_I f < s 108
      · rw [if_pos c] at h; omega
      · rw [if_neg c] at h
        by_cases c2 : 0 < z_HB s (z_I l) f n
        · rw [if_pos c2] at h; omega
        · omega
    have hno : ∀ c j, c < 4 → f ≤ j → j < f + n → z_hv s c j ≠ z_I l := fun c j z_hc a b => z_BO_no (z_HB_0 hHB j a b) c z_hc
    unfold z_GR
    by_cases h8 : s (6 * l + 1) = z_I 7
    · rw [if_pos h8]
      have E1 : z_EqH (z_GE s l) s := z_EqH_upd (by omega) _
      have O1 : z_OKs (z_CP (z_GE s l) (z_MK (z_GE s l) (z_AN s l f n - 10) f n)) := z_OK_PU (z_OK_upd (z_OK_upd O (by omega) _) (by omega) _) _
      have E2 : z_EqH (z_CP (z_GE s l) (z_MK (z_GE s l) (z_AN s l f n - 10) f n)) s := z_EqH_trans (z_EqH_PU _ _ _ _ (by omega)) (z_EqH_trans (z_EqH_upd (by omega) _) E1)
      unfold z_G8
      dsimp only
      have hF := z_FS_le (z_CP (z_GE s l) (z_MK (z_GE s l) (z_AN s l f n - 10) f n)) (z_AN s l f n - 10) f g
      have hP := z_PE_le (z_CP (z_GE s l) (z_MK (z_GE s l) (z_AN s l f n - 10) f n)) (z_AN s l f n - 10) (f + n - 1) (by omega)
      refine z_OK_GZ (s := s) (z_OK_upd (z_OK_LE O1 hb (by omega)) (by omega) _) ?_ hl hb hh hno
      exact z_SubH_t (z_SubH_E (z_EqH_upd (by omega) _)) (z_SubH_t (z_SubH_LE _ _ _ _) (z_SubH_E E2))
    · rw [if_neg h8]
      by_cases h6 : s (6 * l) < s 119
      · rw [if_pos h6]
        have hf0 : ¬ s (6 * l + 2) = 0 := by
          intro z
          unfold z_AN at h
          by_cases c : z_I f < s 108
          · rw [if_pos c] at h; omega
          · rw [if_neg c, if_neg (by omega), if_neg h8, if_pos ⟨h6, z⟩] at h; omega
        obtain ⟨a, ha, ea⟩ := (O.2.2.1 l hl).2.2
        have hfc : ∃ c, c < 4 ∧ s (6 * l + 2) + (-1) = z_I c := by
          rw [ea]; exact z_fm1 a ha (fun z => hf0 (by rw [ea, z]; rfl))
        unfold z_GF
        refine z_OK_GZ (s := s) (z_OK_upd (z_OK_updL O hl (w := 2) (by omega) ⟨by omega, by omega, fun _ => hfc⟩) (by omega) _) ?_ hl hb hh hno
        exact z_SubH_t (z_SubH_E (z_EqH_upd (by omega) _)) (z_SubH_E (z_EqH_upd (by omega) _))
      · rw [if_neg h6]
        exact z_OK_GZ O (z_SubH_refl s) hl hb hh hno
  · rw [if_neg h]
    exact z_OK_RF O hl (by omega) (by omega)
theorem z_OK_SL {s : z_row} (O : z_OKs s) (g : Nat) : z_OKs (z_SL s g 0 10) := by
  refine z_OK_eq O (fun k h1 h2 => Or.inl ?_) (fun k hk => ?_)
  · unfold z_SL; rw [if_neg (by omega)]
  · unfold z_SL; rw [if_neg (by omega)]
theorem z_OK_PS {s : z_row} (O : z_OKs s) {g : Nat} (hg : s 108 = z_I g) (hg12 : g < 12) (h9 : s 109 < 999) : z_OKs (z_PS s g) := by
  have O1 := z_OK_SL O g
  have e9 : z_SL s g 0 10 109 = s 109 := by unfold z_SL; rw [if_neg (by omega)]
  have e19 : z_SL s g 0 10 119 = s 119 := by unfold z_SL; rw [if_neg (by omega)]
  obtain ⟨n, z_hn, en⟩ := O.2.2.2.1
  obtain ⟨q, hq, eq⟩ := O.2.2.2.2.1
  unfold z_PS
  by_cases c : g + 1 < 12
  · rw [if_pos c]
    refine z_OK_sub O1 (z_SubH_E (z_EqH_upd (by omega) _)) ⟨g + 1, c, z_updP _ rfl _⟩ (fun l hl => ?_) ⟨n, z_hn, by rw [z_updN _ (by omega), e9]; exact en⟩ ⟨q, hq, by rw [z_updN _ (by omega), e19]; exact eq⟩
    rw [z_updN _ (by omega), z_updN _ (by omega), z_updN _ (by omega)]; exact O1.2.2.1 l hl
  · rw [if_neg c]
    have fi : ∀ (t : z_row) k, ¬ (60 ≤ k ∧ k < 108) → z_FI t k = t k := fun t k h => if_neg h
    refine z_OK_sub O1 (fun k h1 h2 => Or.inr ?_) ⟨0, by omega, ?_⟩ (fun l hl => ?_) ⟨n + 1, ?_, ?_⟩ ⟨q, hq, ?_⟩
    · rw [z_updN _ (by omega), z_updN _ (by omega)]; exact if_pos ⟨h1, h2⟩
    · rw [z_updN _ (by omega), z_updP _ rfl]; rfl
    · have e : ∀ k, k < 60 → upd (upd (z_FI (upd (z_SL s g 0 10) 108 (z_I (g + 1)))) 108 0) 109 (upd (z_FI (upd (z_SL s g 0 10) 108 (z_I (g + 1)))) 108 0 109 + 1) k = z_SL s g 0 10 k := fun k hk => by
        rw [z_updN _ (by omega), z_updN _ (by omega), fi _ _ (by omega), z_updN _ (by omega)]
      rw [e _ (by omega), e _ (by omega), e _ (by omega)]; exact O1.2.2.1 l hl
    · rw [en, show (999 : Int32) = z_I 999 from rfl, z_I_lt (by omega) (by omega)] at h9; omega
    · rw [z_updP _ rfl, z_updN _ (by omega), fi _ _ (by omega), z_updN _ (by omega), e9, en, z_I_s]
    · rw [z_updN _ (by omega), z_updN _ (by omega), fi _ _ (by omega), z_updN _ (by omega), e19]; exact eq
theorem z_OK_TBr {s : z_row} (O : z_OKs s) {l h : Nat} (hl : l < 10) (hh : h < 12) : z_OKs (z_TBr s l h) := by
  unfold z_TBr
  split
  · exact z_OK_upd O (by omega) _
  · next e =>
    have hB := z_BO_le s (z_I l) h
    have hp := z_PE_le s (z_BO s (z_I l) h) h hh
    exact z_OK_LE O (by omega) (by omega)
theorem z_fp1 : ∀ a, a < 4 → z_I a < 3 → ∃ c, c < 4 ∧ z_I a + 1 = z_I c := by
  intro a ha h
  rw [z_L3, z_I_lt (by omega) (by omega)] at h
  exact ⟨a + 1, by omega, z_I_s a⟩
theorem z_OK_fav {s : z_row} (O : z_OKs s) {l : Nat} (hl : l < 10) : z_OKs (if s (6 * l + 2) < 3 then upd s (6 * l + 2) (s (6 * l + 2) + 1) else upd s 118 (s 118 + 1)) := by
  split
  · next h =>
    obtain ⟨a, ha, ea⟩ := (O.2.2.1 l hl).2.2
    exact z_OK_updL O hl (w := 2) (by omega) ⟨by omega, by omega, fun _ => by rw [ea] at h ⊢; exact z_fp1 a ha h⟩
  · exact z_OK_upd O (by omega) _
theorem z_OK_need {s : z_row} (O : z_OKs s) {l v : Nat} (hl : l < 10) (z_hv : v ≤ 9) : z_OKs (upd s (6 * l) (z_I v)) :=
  z_OK_updL O hl (w := 0) (by omega) ⟨fun _ => ⟨v, by omega, rfl⟩, by omega, by omega⟩
theorem z_OK_set {s : z_row} (O : z_OKs s) {v : Nat} (z_hv : v ≤ 9) : z_OKs (upd s 119 (z_I v)) := by
  refine z_OK_sub O (z_SubH_E (z_EqH_upd (by omega) _)) ?_ (fun l hl => ?_) ?_ ⟨v, by omega, z_updP _ rfl _⟩
  · rw [z_updN _ (by omega)]; exact O.2.1
  · rw [z_updN _ (by omega), z_updN _ (by omega), z_updN _ (by omega)]; exact O.2.2.1 l hl
  · rw [z_updN _ (by omega)]; exact O.2.2.2.1

def z_ns (st : Nat) (c : Int32) : Nat := if st = 0 then (if c = 104 then 4 else if c < 48 then 5 else if (57 : Int32) < c then 5 else 1) else
  if st = 1 then (if c = 64 then 2 else 5) else if st = 2 then (if c < 97 then 5 else if (108 : Int32) < c then 5 else 3) else
  if st = 3 then (if c < 49 then 5 else if (57 : Int32) < c then 5 else 4) else if st = 4 then (if c = 59 then 0 else 5) else 5
def z_ep (tx : Nat → Int32) : Nat → Nat → Nat → Nat × Nat
  | st, p, 0 => (p, st)
  | st, p, d + 1 => if z_ns st (tx p) = 5 then (p, 5) else z_ep tx (z_ns st (tx p)) (p + 1) d
section
variable {x x' : xS} {s s' : z_row} {m : Nat} {sv : Nat → z_row} {kp : Nat → Bool} {sl : Nat → z_row} {len : Nat} {tx : Nat → Int32}
theorem z_anti {a b : Int32} (h1 : ¬ a < b) (h2 : ¬ b < a) : a = b := Int32.le_antisymm (Int32.not_lt.mp h2) (Int32.not_lt.mp h1)
def z_OKA (s : z_row) (m : Nat) (sv : Nat → z_row) (kp : Nat → Bool) (sl : Nat → z_row) : Prop := z_OKs s ∧ (∀ k, k < m → z_OKs (sv k)) ∧ (∀ j, j < 2 → kp j = true → z_OKs (sl j))
theorem z_OKA_s (O : z_OKA s m sv kp sl) (O' : z_OKs s') (z_hm : m ≤ 6) : z_OKA s' (z_nM m) (z_nV m sv s) kp sl := by
  refine ⟨O', fun k hk => ?_, O.2.2⟩
  unfold z_nM at hk; unfold z_nV
  by_cases c : m = 6
  · rw [if_pos c] at hk
    rw [if_pos c]
    by_cases c5 : k < 5
    · rw [if_pos c5]; exact O.2.1 (k + 1) (by omega)
    · rw [if_neg c5]; exact O.1
  · rw [if_neg c] at hk
    rw [if_neg c]
    by_cases c5 : k < m
    · rw [if_pos c5]; exact O.2.1 k c5
    · rw [if_neg c5]; exact O.1
end
theorem z_cmp_self : ∀ n, n < 49 → Op.cmpValue (FP.dcmp (z_shr n) (z_shr n)) CmpOp.l = 0 := by decide +kernel
def z_s00 : z_row := fun k => if k < 60 then (if k % 6 = 0 then z_I (k / 6) else 0) else if k < 108 then -1 else if k = 119 then 3 else 0
theorem z_OK_s00 : z_OKs z_s00 := by
  refine ⟨fun k hk => Or.inl ?_, ⟨0, by omega, ?_⟩, fun l hl => ⟨⟨l, hl, ?_⟩, ⟨0, by omega, ?_⟩, ⟨0, by omega, ?_⟩⟩, ⟨0, by omega, ?_⟩, ⟨3, by omega, ?_⟩, fun h hh b hb c z_hc e hne => absurd ?_ hne⟩
  · unfold z_s00; rw [if_neg (by omega), if_pos (by omega)]
  · unfold z_s00; rw [if_neg (by omega), if_neg (by omega), if_neg (by omega)]; rfl
  · unfold z_s00; rw [if_pos (by omega), if_pos (by omega), show 6 * l / 6 = l by omega]
  · unfold z_s00; rw [if_pos (by omega), if_neg (by omega)]; rfl
  · unfold z_s00; rw [if_pos (by omega), if_neg (by omega)]; rfl
  · unfold z_s00; rw [if_neg (by omega), if_neg (by omega), if_neg (by omega)]; rfl
  · unfold z_s00; rw [if_neg (by omega), if_neg (by omega), if_pos rfl]; rfl
  · unfold z_hv z_s00; rw [if_neg (by omega), if_pos (by omega)]
theorem z_S3_00 : z_S3 z_s00 = 0 := by decide
theorem z_S5_00 : z_S5 z_s00 = 0 := by decide
