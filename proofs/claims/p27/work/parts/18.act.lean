def zl_lv (v n : Int32) : Int32 := (v &&& 2147483647) - (v &&& 2147483647) / n * n
theorem zl_low {n : Int32} (v : Int32) (h : ¬ n = 0) (x : xS) : fL_low v n x = some (zl_lv v n) := by
  unfold fL_low fL_low_b0
  rw [if_neg h]
  rfl
theorem zl_md {k n : Nat} (hk : k < 2 ^ 31) (h1 : 1 ≤ n) (hn : n < 1000) : z_I k - z_I k / z_I n * z_I n = z_I (k % n) := by
  have e : z_I k / z_I n = z_I (k / n) := pk_div hk h1 (by omega)
  rw [e, z_I_mul, z_I_sub (Nat.div_mul_le_self k n)]
  have := Nat.div_add_mod k n
  rw [Nat.mul_comm] at this
  congr 1
  omega
theorem zl_dv {k n : Nat} (hk : k < 2 ^ 31) (h1 : 1 ≤ n) (hn : n < 1000) : z_I k / z_I n = z_I (k / n) := pk_div hk h1 (by omega)
theorem zl_lv_I (v : Int32) {n : Nat} (h1 : 1 ≤ n) (hn : n < 1000) : ∃ k, k < n ∧ zl_lv v (z_I n) = z_I k := by
  obtain ⟨j, hj, e⟩ := pk_andE v (m := 2147483647) 31 (by decide)
  refine ⟨j % n, Nat.mod_lt _ (by omega), ?_⟩
  unfold zl_lv
  rw [e]
  exact zl_md hj h1 hn
/-- an act, told by the row alone: what it throws (k), or what it answers (r) and the row behind -/
def zl_A (s : z_row) (f : xS → Option (Int32 × xS)) : Prop := ∃ (k r : Int32) (s' : z_row), z_OKs s' ∧ (∀ T, zi_J T s → zi_J (T + 1) s') ∧
  ∀ (x : xS) (m : Nat) (sv : Nat → z_row) (kp : Nat → Bool) (sl : Nat → z_row) (len : Nat) (tx : Nat → Int32), z_RelC x s m sv kp sl len tx →
    (k ≠ 0 → f x = some (k, x)) ∧ (k = 0 → ∃ x', f x = some (0, up1 x' 202 (0 : Int32).toNatClampNeg r) ∧ z_RelC x' s' (z_nM m) (z_nV m sv s) kp sl len tx ∧ z_FrC x x')
theorem zl_A_thr {s : z_row} {f : xS → Option (Int32 × xS)} (O : z_OKs s) {k : Int32} (hk : k ≠ 0) (h : ∀ x, f x = some (k, x)) : zl_A s f :=
  ⟨k, 0, s, O, fun _ J => zi_mono J, fun x m sv kp sl len tx _ => ⟨fun _ => h x, fun e => absurd e hk⟩⟩
theorem zl_A_do {s s' : z_row} {f : xS → Option (Int32 × xS)} {g : xS → Option (Sum Nat (Int32 × xS))} {r : Int32} (O : z_OKs s') (J : ∀ T, zi_J T s → zi_J (T + 1) s')
    (hf : ∀ (x x' : xS), g x = some (Sum.inr (r, x')) → f x = some (0, up1 x' 202 (0 : Int32).toNatClampNeg r))
    (h : ∀ (x : xS) (m : Nat) (sv : Nat → z_row) (kp : Nat → Bool) (sl : Nat → z_row) (len : Nat) (tx : Nat → Int32), z_RelC x s m sv kp sl len tx → z_CC (g x) x r s' (z_nM m) (z_nV m sv s) kp sl len tx) : zl_A s f := by
  refine ⟨0, r, s', O, J, fun x m sv kp sl len tx R => ⟨fun e => absurd rfl e, fun _ => ?_⟩⟩
  obtain ⟨x', e, R', F⟩ := h x m sv kp sl len tx R
  exact ⟨x', hf x x' e, R', F⟩
theorem zl_g202 {α : Type} (a : Option α) : (if (0 : Int32) < 0 ∨ ln 202 ≤ (0 : Int32).toNatClampNeg then none else a) = a := if_neg (by decide +kernel)
theorem zl_WN {f n : Nat} : z_WN (z_I f) (z_I n) ↔ z_WN (z_I f) (z_I n) := Iff.rfl
theorem zl_asks {s : z_row} (O : z_OKs s) (v1 v2 v3 : Int32) : zl_A s (fun x => fL_asks 0 v1 v2 v3 202 x) := by
  by_cases h1 : z_inR v1 0 9
  · obtain ⟨l, _, hl, rfl⟩ := h1
    by_cases h2 : z_WN v2 v3
    · obtain ⟨f, n, rfl, rfl, hf, n1, n9, hh⟩ := h2
      refine zl_A_do (g := fun x => fX6_ask 0 (z_I l) (z_I f) (z_I n) x) (z_OK_TA O (by omega) n1 hh) (fun T J => zi_TA O (by omega) n1 hh J) (fun x x' e => ?_) (fun x m sv kp sl len tx R => z_C_ask R O (by omega) hf n1 n9 hh)
      unfold fL_asks
      rw [e, z_ob]
      dsimp only
      rw [zl_g202, z_lt_]
    · refine zl_A_thr O (k := 2) (by decide) (fun x => ?_)
      have e : fX6_ask 0 (z_I l) v2 v3 x = some (Sum.inl 2) := by
        unfold fX6_ask fX6_ask_b0
        rw [z_c_chkA_W x (by omega) h2, z_ob]
      unfold fL_asks
      rw [e, z_ob]
      dsimp only
      rw [if_neg (by decide), if_pos rfl]
  · refine zl_A_thr O (k := 1) (by decide) (fun x => ?_)
    have e : fX6_ask 0 v1 v2 v3 x = some (Sum.inl 1) := by
      unfold fX6_ask fX6_ask_b0
      rw [z_c_chkA_L x h1, z_ob]
    unfold fL_asks
    rw [e, z_ob]
    dsimp only
    rw [if_pos rfl]
theorem zl_giveBack {s : z_row} (O : z_OKs s) (a b : Int32) : zl_A s (fun x => fL_changes 0 0 a b 202 x) := by
  by_cases h1 : z_inR a 0 9
  · obtain ⟨l, _, hl, rfl⟩ := h1
    by_cases h2 : z_inR b 0 11
    · obtain ⟨h, _, hh, rfl⟩ := h2
      refine zl_A_do (g := fun x => fX6_giveBack 0 (z_I l) (z_I h) x) (z_OK_TBr O (by omega) (by omega)) (fun T J => zi_TBr (by omega) J) (fun x x' e => ?_) (fun x m sv kp sl len tx R => z_C_giveBack R (by omega) (by omega))
      unfold fL_changes
      rw [if_pos rfl, e, z_ob]
      dsimp only
      rw [zl_g202, z_lt_]
    · refine zl_A_thr O (k := 2) (by decide) (fun x => ?_)
      have e : fX6_giveBack 0 (z_I l) b x = some (Sum.inl 2) := by
        unfold fX6_giveBack fX6_giveBack_b0
        rw [z_c_chkL_ok x (by omega), z_ob]
        dsimp only
        rw [z_c_hour_bad x h2, z_ob]
      unfold fL_changes
      rw [if_pos rfl, e, z_ob]
      dsimp only
      rw [if_neg (by decide), if_pos rfl]
  · refine zl_A_thr O (k := 1) (by decide) (fun x => ?_)
    have e : fX6_giveBack 0 a b x = some (Sum.inl 1) := by
      unfold fX6_giveBack fX6_giveBack_b0
      rw [z_c_chkL_bad x h1, z_ob]
    unfold fL_changes
    rw [if_pos rfl, e, z_ob]
    dsimp only
    rw [if_pos rfl]
theorem zl_favour {s : z_row} (O : z_OKs s) (a b : Int32) : zl_A s (fun x => fL_changes 0 1 a b 202 x) := by
  by_cases h1 : z_inR a 0 9
  · obtain ⟨l, _, hl, rfl⟩ := h1
    refine zl_A_do (g := fun x => fX6_favour 0 (z_I l) x) (z_OK_fav O (l := l) (by omega)) (fun T J => zi_fav (by omega) J) (fun x x' e => ?_) (fun x m sv kp sl len tx R => z_C_favour R (by omega))
    unfold fL_changes
    rw [if_neg (by decide), if_pos rfl, e, z_ob]
    dsimp only
    rw [zl_g202, z_lt_]
  · refine zl_A_thr O (k := 1) (by decide) (fun x => ?_)
    have e : fX6_favour 0 a x = some (Sum.inl 1) := by
      unfold fX6_favour fX6_favour_b0
      rw [z_c_chkL_bad x h1, z_ob]
    unfold fL_changes
    rw [if_neg (by decide), if_pos rfl, e, z_ob]
    dsimp only
    rw [if_pos rfl]
theorem zl_need {s : z_row} (O : z_OKs s) (a b : Int32) : zl_A s (fun x => fL_changes 0 2 a b 202 x) := by
  by_cases h1 : z_inR a 0 9
  · obtain ⟨l, _, hl, rfl⟩ := h1
    by_cases h2 : z_inR b 0 9
    · obtain ⟨v, _, hv, rfl⟩ := h2
      refine zl_A_do (g := fun x => fX6_need 0 (z_I l) (z_I v) x) (z_OK_need O (l := l) (v := v) (by omega) hv) (fun T J => zi_upd _ (by omega) J) (fun x x' e => ?_) (fun x m sv kp sl len tx R => z_C_need R (by omega) hv)
      unfold fL_changes
      rw [if_neg (by decide), if_neg (by decide), if_pos rfl, e, z_ob]
      dsimp only
      rw [zl_g202, z_lt_]
    · refine zl_A_thr O (k := 2) (by decide) (fun x => ?_)
      have e : fX6_need 0 (z_I l) b x = some (Sum.inl 2) := by
        unfold fX6_need fX6_need_b0
        rw [z_c_chkL_ok x (by omega), z_ob]
        dsimp only
        rw [z_c_need_bad x h2, z_ob]
      unfold fL_changes
      rw [if_neg (by decide), if_neg (by decide), if_pos rfl, e, z_ob]
      dsimp only
      rw [if_neg (by decide), if_pos rfl]
  · refine zl_A_thr O (k := 1) (by decide) (fun x => ?_)
    have e : fX6_need 0 a b x = some (Sum.inl 1) := by
      unfold fX6_need fX6_need_b0
      rw [z_c_chkL_bad x h1, z_ob]
    unfold fL_changes
    rw [if_neg (by decide), if_neg (by decide), if_pos rfl, e, z_ob]
    dsimp only
    rw [if_pos rfl]
theorem zl_set {s : z_row} (O : z_OKs s) (a b : Int32) : zl_A s (fun x => fL_changes 0 3 a b 202 x) := by
  by_cases h2 : z_inR a 0 9
  · obtain ⟨v, _, hv, rfl⟩ := h2
    refine zl_A_do (g := fun x => fX6_set 0 (z_I v) x) (z_OK_set O (v := v) hv) (fun T J => zi_upd _ (by omega) J) (fun x x' e => ?_) (fun x m sv kp sl len tx R => z_C_set R hv)
    unfold fL_changes
    rw [if_neg (by decide), if_neg (by decide), if_neg (by decide), if_pos rfl, e, z_ob]
    dsimp only
    rw [zl_g202, z_lt_]
  · refine zl_A_thr O (k := 2) (by decide) (fun x => ?_)
    have e : fX6_set 0 a x = some (Sum.inl 2) := by
      unfold fX6_set fX6_set_b0
      rw [z_c_need_bad x h2, z_ob]
    unfold fL_changes
    rw [if_neg (by decide), if_neg (by decide), if_neg (by decide), if_pos rfl, e, z_ob]
    dsimp only
    rw [if_neg (by decide), if_pos rfl]
theorem zl_pass {s : z_row} (O : z_OKs s) {how : Int32} (h0 : ¬ how = 0) (h1 : ¬ how = 1) (h2 : ¬ how = 2) (h3 : ¬ how = 3) (a b : Int32) : zl_A s (fun x => fL_changes 0 how a b 202 x) := by
  obtain ⟨g1, g2⟩ := z_gn_ok O
  by_cases h9 : s 109 < 999
  · refine zl_A_do (g := fun x => fX6_pass 0 x) (z_OK_PS O g2 g1 h9) (fun T J => zi_PS J) (fun x x' e => ?_) (fun x m sv kp sl len tx R => z_C_pass R O h9)
    unfold fL_changes
    rw [if_neg h0, if_neg h1, if_neg h2, if_neg h3, e, z_ob]
    dsimp only
    rw [zl_g202, z_lt_]
  · refine ⟨3, 0, s, O, fun _ J => zi_mono J, fun x m sv kp sl len tx R => ⟨fun _ => ?_, fun e => absurd e (by decide)⟩⟩
    dsimp only
    unfold fL_changes
    rw [if_neg h0, if_neg h1, if_neg h2, if_neg h3, z_C_pass_bad R h9, z_ob]
    dsimp only
    rw [if_neg (by decide), if_neg (by decide), if_pos rfl]
theorem zl_changes {s : z_row} (O : z_OKs s) (how a b : Int32) : zl_A s (fun x => fL_changes 0 how a b 202 x) := by
  by_cases h0 : how = 0
  · subst h0; exact zl_giveBack O a b
  by_cases h1 : how = 1
  · subst h1; exact zl_favour O a b
  by_cases h2 : how = 2
  · subst h2; exact zl_need O a b
  by_cases h3 : how = 3
  · subst h3; exact zl_set O a b
  exact zl_pass O h0 h1 h2 h3 a b
/-! act is one of these, by its cell -/
theorem zl_A_eq {s : z_row} {f g : xS → Option (Int32 × xS)} (h : ∀ x, f x = g x) (k : zl_A s g) : zl_A s f := by
  have e : f = g := funext h
  rw [e]; exact k
theorem zl_A_ite {s : z_row} {c : Prop} {d : Decidable c} {f g : xS → Option (Int32 × xS)} (h1 : c → zl_A s f) (h2 : ¬ c → zl_A s g) : zl_A s (fun x => @ite _ c d (f x) (g x)) := by
  by_cases h : c
  · exact zl_A_eq (fun x => if_pos h) (h1 h)
  · exact zl_A_eq (fun x => if_neg h) (h2 h)
theorem zl_A_low {s : z_row} {v n : Int32} {K : Int32 → xS → Option (Int32 × xS)} (hn : ¬ n = 0) (h : zl_A s (K (zl_lv v n))) : zl_A s (fun x => Option.bind (fL_low v n x) (fun r => K r x)) :=
  zl_A_eq (fun x => by rw [zl_low v hn x, z_ob]) h
theorem zl_A_b {s : z_row} {f : xS → Option (Int32 × xS)} (h : zl_A s f) : zl_A s (fun x => Option.bind (f x) (fun r => some (r.1, r.2))) :=
  zl_A_eq (fun x => by cases f x <;> rfl) h
theorem zl_b244 {s : z_row} (O : z_OKs s) (s1 s2 s3 : Int32) {s4 : Int32} (h : ¬ s4 = 0) : zl_A s (fun x => fL_act_b244 0 202 s1 s2 s3 s4 x) := by
  unfold fL_act_b244
  exact zl_A_low (K := fun r244 x => Option.bind (fL_changes 0 s1 s2 r244 202 x) (fun r248 => some (r248.1, r248.2))) h (zl_A_b (zl_changes O _ _ _))
theorem zl_b228 {s : z_row} (O : z_OKs s) (v4 v5 s1 s2 : Int32) : zl_A s (fun x => fL_act_b228 0 202 v4 v5 s1 s2 x) := by
  unfold fL_act_b228
  exact zl_A_ite (fun _ => zl_b244 O _ _ _ (by decide)) (fun _ => zl_b244 O _ _ _ (by decide))
theorem zl_b220 {s : z_row} (O : z_OKs s) (v4 v5 s1 s2 : Int32) {s3 : Int32} (h : ¬ s3 = 0) : zl_A s (fun x => fL_act_b220 0 202 v4 v5 s1 s2 s3 x) := by
  unfold fL_act_b220
  exact zl_A_low (K := fun r220 x => fL_act_b228 0 202 v4 v5 s1 r220 x) h (zl_b228 O _ _ _ _)
theorem zl_b195 {s : z_row} (O : z_OKs s) (v4 v5 v6 s0 : Int32) : zl_A s (fun x => fL_act_b195 0 202 v4 v5 v6 s0 x) := by
  unfold fL_act_b195
  exact zl_A_ite (fun _ => zl_A_ite (fun _ => zl_b220 O _ _ _ _ (by decide)) (fun _ => zl_b220 O _ _ _ _ (by decide))) (fun _ => zl_b228 O _ _ _ _)
theorem zl_b158 {s : z_row} (O : z_OKs s) (s1 s2 s3 : Int32) : zl_A s (fun x => fL_act_b158 0 202 s1 s2 s3 x) := by
  unfold fL_act_b158
  exact zl_A_b (zl_asks O _ _ _)
theorem zl_b141 {s : z_row} (O : z_OKs s) (s1 s2 s3 s4 : Int32) {s5 : Int32} (h : ¬ s5 = 0) : zl_A s (fun x => fL_act_b141 0 202 s1 s2 s3 s4 s5 x) := by
  unfold fL_act_b141
  exact zl_A_low (K := fun r141 x => fL_act_b158 0 202 s1 s2 (s3 + r141) x) h (zl_b158 O _ _ _)
theorem zl_12 : ∀ k, k < 13 → ¬ (9 : Int32) ≤ 12 - z_I k → k < 12 → ¬ (12 - z_I k : Int32) = 0 := by decide
theorem zl_b100 {s : z_row} (O : z_OKs s) (v4 v5 v6 s0 : Int32) {n : Nat} (h1 : 1 ≤ n) (h2 : n ≤ 13) (h3 : v5 = 0 ∨ n ≤ 12) : zl_A s (fun x => fL_act_b100 0 202 v4 v5 v6 s0 (z_I n) x) := by
  have hn : ¬ z_I n = 0 := by rw [z_L0, z_I_eq (by omega) (by omega)]; omega
  obtain ⟨k, hk, ek⟩ := zl_lv_I s0 h1 (show n < 1000 by omega)
  unfold fL_act_b100
  refine zl_A_low (K := fun r100 x => (if v5 = 0 then Option.bind (fL_low (v4 >>> ((6 : Int32) &&& 31)) 11 x) (fun r155 => fL_act_b158 0 202 v6 r100 r155 x) else (if (9 : Int32) ≤ (12 - r100) then fL_act_b141 0 202 v6 r100 1 (v4 >>> ((6 : Int32) &&& 31)) 9 x else fL_act_b141 0 202 v6 r100 1 (v4 >>> ((6 : Int32) &&& 31)) (12 - r100) x))) hn ?_
  rw [ek]
  refine zl_A_ite (fun _ => ?_) (fun c => zl_A_ite (fun _ => zl_b141 O _ _ _ _ (by decide)) (fun c2 => zl_b141 O _ _ _ _ (zl_12 k (by omega) c2 ?_)))
  · exact zl_A_low (K := fun r155 x => fL_act_b158 0 202 v6 (z_I k) r155 x) (by decide) (zl_b158 O _ _ _)
  · rcases h3 with h3 | h3
    · exact absurd h3 c
    · omega
theorem zl_b59 {s : z_row} (O : z_OKs s) (v3 v4 v5 s0 : Int32) {s1 : Int32} (h : ¬ s1 = 0) : zl_A s (fun x => fL_act_b59 0 202 v3 v4 v5 s0 s1 x) := by
  unfold fL_act_b59
  refine zl_A_low (K := fun r59 x => (if (22 : Int32) ≤ v3 then
  (if (28 : Int32) ≤ v3 then
  Option.bind (fL_changes 0 4 0 0 202 x) (fun r257 =>
  some (r257.1, r257.2))
  else
  (if (24 : Int32) ≤ v3 then
  (if (4 : Int32) ≤ (v3 - 23) then
  fL_act_b195 0 202 v4 v5 r59 4 x
  else
  fL_act_b195 0 202 v4 v5 r59 (v3 - 23) x)
  else
  fL_act_b195 0 202 v4 v5 r59 0 x))
  else
  (if v5 = 0 then
  fL_act_b100 0 202 v4 v5 r59 (v4 >>> ((3 : Int32) &&& 31)) 13 x
  else
  (if ((v4 >>> ((13 : Int32) &&& 31)) &&& 1) = 0 then
  fL_act_b100 0 202 v4 v5 r59 (v4 >>> ((3 : Int32) &&& 31)) 12 x
  else
  fL_act_b100 0 202 v4 v5 r59 (v4 >>> ((3 : Int32) &&& 31)) 4 x)))) h ?_
  refine zl_A_ite (fun _ => zl_A_ite (fun _ => zl_A_b (zl_changes O _ _ _)) (fun _ => zl_A_ite (fun _ => zl_A_ite (fun _ => zl_b195 O _ _ _ _) (fun _ => zl_b195 O _ _ _ _)) (fun _ => zl_b195 O _ _ _ _))) (fun _ => zl_A_ite (fun c => ?_) (fun _ => zl_A_ite (fun _ => ?_) (fun _ => ?_)))
  · exact zl_b100 O _ _ _ _ (n := 13) (by omega) (by omega) (Or.inl c)
  · exact zl_b100 O _ _ _ _ (n := 12) (by omega) (by omega) (Or.inr (by omega))
  · exact zl_b100 O _ _ _ _ (n := 4) (by omega) (by omega) (Or.inr (by omega))
theorem zl_b29 {s : z_row} (O : z_OKs s) (v3 v4 s0 : Int32) : zl_A s (fun x => fL_act_b29 0 202 v3 v4 s0 x) := by
  unfold fL_act_b29
  exact zl_A_ite (fun _ => zl_b59 O _ _ _ _ (by decide)) (fun _ => zl_A_ite (fun _ => zl_b59 O _ _ _ _ (by decide)) (fun _ => zl_b59 O _ _ _ _ (by decide)))
theorem zl_act {s : z_row} (O : z_OKs s) (v : Int32) : zl_A s (fun x => fL_act 0 v 202 x) := by
  unfold fL_act fL_act_b0
  refine zl_A_low (K := fun r3 x => lt1 (v >>> ((5 : Int32) &&& 31)) (fun y10 => Option.bind (fL_low (v >>> ((22 : Int32) &&& 31)) 7 x) (fun r18 => (if r18 ≤ 0 then fL_act_b29 0 202 r3 y10 0 x else fL_act_b29 0 202 r3 y10 1 x)))) (by decide) ?_
  refine zl_A_eq (fun x => z_lt_ _ _) ?_
  refine zl_A_low (K := fun r18 x => (if r18 ≤ 0 then fL_act_b29 0 202 (zl_lv v 32) (v >>> ((5 : Int32) &&& 31)) 0 x else fL_act_b29 0 202 (zl_lv v 32) (v >>> ((5 : Int32) &&& 31)) 1 x)) (by decide) ?_
  exact zl_A_ite (fun _ => zl_b29 O _ _ _) (fun _ => zl_b29 O _ _ _)
