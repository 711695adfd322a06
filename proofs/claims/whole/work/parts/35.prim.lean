/-! primitive rows, lowest terms -/
def PRIM (g : Int) (v : VC) : Prop := ∀ m c : Int, (∀ x, 0 ≤ x → x < g → m ∣ c * v x) → m ∣ c
theorem PRIM.nz {g : Int} {v : VC} (h : PRIM g v) : ∃ x, 0 ≤ x ∧ x < g ∧ v x ≠ 0 := Classical.byContradiction fun z => by
  have := h 0 1 fun x h0 h1 => by
    rw [Classical.byContradiction (p := v x = 0) fun q => z ⟨x, h0, h1, q⟩]; exact ⟨0, rfl⟩
  exact absurd (Int.zero_dvd.mp this) (by decide)
theorem PRIM.c {g : Int} {v w : VC} (h : PRIM g v) (e : ∀ x, 0 ≤ x → x < g → v x = w x) : PRIM g w := fun m c hm => h m c fun x h0 h1 => by rw [e x h0 h1]; exact hm x h0 h1
/-- what stands beside a primitive row is a whole multiple of it -/
theorem PRIM.mul {g a b : Int} {v w : VC} (h : PRIM g v) (hb : b ≠ 0) (e : ∀ x, 0 ≤ x → x < g → v x * a = w x * b) : ∃ k, a = k * b ∧ ∀ x, 0 ≤ x → x < g → w x = k * v x := by
  obtain ⟨k, hk⟩ := h b a fun x h0 h1 => ⟨w x, by rw [Int.mul_comm a, e x h0 h1, Int.mul_comm]⟩
  refine ⟨k, by rw [hk, Int.mul_comm], fun x h0 h1 => ?_⟩
  have h2 := e x h0 h1
  rw [hk, Int.mul_comm (v x), Int.mul_assoc, Int.mul_comm (w x)] at h2
  exact (Int.eq_of_mul_eq_mul_left hb h2).symm
def gF (v : VC) : Nat → Int
  | 0 => 0
  | n + 1 => (Int.gcd (gF v n) (v n) : Int)
theorem gF_S {v : VC} {k : Int} (h : 0 ≤ k) : gF v (k + 1).toNat = (Int.gcd (gF v k.toNat) (v k) : Int) := by
  rw [show (k + 1).toNat = k.toNat + 1 by omega]
  show ((Int.gcd (gF v k.toNat) (v (k.toNat : Int)) : Nat) : Int) = _
  rw [show ((k.toNat : Nat) : Int) = k by omega]
theorem gF_nn (v : VC) : ∀ n, 0 ≤ gF v n
  | 0 => Int.le_refl _
  | n + 1 => by unfold gF; omega
theorem gF_dvd (v : VC) : ∀ (n : Nat) (x : Int), 0 ≤ x → x < n → gF v n ∣ v x
  | 0, x, h0, h1 => by omega
  | n + 1, x, h0, h1 => by
    unfold gF
    by_cases e : x = n
    · rw [e]; exact Int.gcd_dvd_right ..
    · exact Int.dvd_trans (Int.gcd_dvd_left ..) (gF_dvd v n x h0 (by omega))
theorem gF_gr {v : VC} {m c : Int} : ∀ (n : Nat), (∀ x : Int, 0 ≤ x → x < n → m ∣ c * v x) → m ∣ c * gF v n
  | 0, _ => by simp [gF]
  | n + 1, h => by
    have h1 := gF_gr n (fun x h0 h1 => h x h0 (by omega))
    have h2 := h n (by omega) (by omega)
    have h3 := Int.dvd_coe_gcd h1 h2
    rw [Int.gcd_mul_left] at h3
    unfold gF
    have h4 : ((c.natAbs * Int.gcd (gF v n) (v n) : Nat) : Int) ∣ c * (Int.gcd (gF v n) (v n) : Int) := by
      rw [Int.natCast_mul]
      exact Int.mul_dvd_mul (Int.natAbs_dvd.mpr (Int.dvd_refl c)) (Int.dvd_refl _)
    exact Int.dvd_trans h3 h4
theorem gF_b {v : VC} {b : Int} : ∀ n : Nat, (∀ x : Int, 0 ≤ x → x < n → ab (v x) ≤ b) → 0 ≤ b → gF v n ≤ b
  | 0, _, h => h
  | n + 1, h, hb => by
    have h1 := gF_b n (fun x h0 h1 => h x h0 (by omega)) hb
    have h2 := h n (by omega) (by omega)
    have h3 := gF_nn v n
    unfold gF
    by_cases e : gF v n = 0
    · rw [e, Int.gcd_zero_left]
      rcases ab_d (v n) with q | q <;> omega
    · have h4 : (Int.gcd (gF v n) (v n) : Int) ∣ gF v n := Int.gcd_dvd_left ..
      have := Int.le_of_dvd (by omega) h4
      omega
def NRM (g : Int) (w v : VC) : Prop := (∀ x, 0 ≤ x → x < g → w x = 0 ∧ v x = 0) ∨ (PRIM g v ∧ ∃ d, 1 ≤ d ∧ ∀ x, 0 ≤ x → x < g → w x = d * v x)
theorem NRM_of {g : Int} {w v : VC} (h : ∀ x, 0 ≤ x → x < g → v x = if 0 < gF w g.toNat then (w x).tdiv (gF w g.toNat) else 0) : NRM g w v := by
  have hd := gF_dvd w g.toNat
  by_cases e : 0 < gF w g.toNat
  · have h2 : ∀ x, 0 ≤ x → x < g → w x = gF w g.toNat * v x := fun x h0 h1 => by
      rw [h x h0 h1, if_pos e]; exact (Int.mul_tdiv_cancel' (hd x h0 (by omega))).symm
    refine Or.inr ⟨fun m c hm => ?_, gF w g.toNat, by omega, h2⟩
    have h3 : m * gF w g.toNat ∣ c * gF w g.toNat := gF_gr _ fun x h0 h1 => by
      obtain ⟨k, hk⟩ := hm x h0 (by omega)
      exact ⟨k, by rw [h2 x h0 (by omega), Int.mul_left_comm, hk, Int.mul_left_comm, Int.mul_assoc]⟩
    exact Int.dvd_of_mul_dvd_mul_right (by omega) h3
  · have e0 : gF w g.toNat = 0 := by have := gF_nn w g.toNat; omega
    exact Or.inl fun x h0 h1 => ⟨by have := hd x h0 (by omega); rw [e0] at this; exact Int.zero_dvd.mp this, by rw [h x h0 h1, if_neg e]⟩
theorem NRM.e {g : Int} {w v : VC} (h : NRM g w v) : ∃ d, 1 ≤ d ∧ ∀ x, 0 ≤ x → x < g → w x = d * v x := by
  rcases h with h | ⟨-, d, hd, h⟩
  · exact ⟨1, by decide, fun x h0 h1 => by rw [(h x h0 h1).1, (h x h0 h1).2]; rfl⟩
  · exact ⟨d, hd, h⟩
theorem NRM.nb {g b : Int} {w v : VC} (h : NRM g w v) (hb : NB g b w) : NB g b v := by
  obtain ⟨d, hd, e⟩ := h.e
  exact NB_div hb (by omega) e
theorem NRM.p {g : Int} {w v : VC} (h : NRM g w v) {x : Int} (h0 : 0 ≤ x) (h1 : x < g) (hv : v x ≠ 0) : PRIM g v := by
  rcases h with h | h
  · exact absurd (h x h0 h1).2 hv
  · exact h.1
/-- two rows of a span that are 0 at the same other pivots -/
theorem PROP {g : Int} {L : VC → Prop} (hS : SUB g L) {C : Int → VC} (hR : RED g L C) {v w : VC} {x : Int} (x1 : 0 ≤ x ∧ x < g) (hv : L v) (hw : L w) (hv0 : ∀ y, 0 ≤ y → y < g → C y y ≠ 0 → y ≠ x → v y = 0) (hw0 : ∀ y, 0 ≤ y → y < g → C y y ≠ 0 → y ≠ x → w y = 0) : ∀ z, 0 ≤ z → z < g → v z * w x = w z * v x := fun z z0 z1 => by
  have := hR (elm v w x) (hS.el hv hw x) (fun y y0 y1 hy => by
    unfold elm
    by_cases e : y = x
    · subst e; rw [Int.mul_comm]; omega
    · rw [hv0 y y0 y1 hy e, hw0 y y0 y1 hy e]; simp) z z0 z1
  unfold elm at this
  omega
def q5L (x z : Int) : List Int := [(1 : Int), 2, 3, 4, 5].filter (fun y => y != x && y != z)
theorem q5_len : ∀ x ∈ [(1 : Int), 2, 3, 4, 5], ∀ z ∈ [(1 : Int), 2, 3, 4, 5], x ≠ z → (q5L x z).length = 3 := by decide
theorem q5_mem {y : Int} (h : 1 ≤ y ∧ y ≤ 5) : y ∈ [(1 : Int), 2, 3, 4, 5] := by
  have : y = 1 ∨ y = 2 ∨ y = 3 ∨ y = 4 ∨ y = 5 := by omega
  rcases this with e | e | e | e | e <;> subst e <;> decide
/-- no row stands at place 0 -/
theorem piv0 {g : Int} {L : VC → Prop} {C : Int → VC} (hg : 1 ≤ g) (hz : ∀ v, L v → sm v g.toNat = 0) (hT : TRI g C) (hC : ∀ x, 0 ≤ x → x < g → C x x ≠ 0 → L (C x)) : C 0 0 = 0 := Classical.byContradiction fun q => by
  have h1 := hz _ (hC 0 (by decide) (by omega) q)
  have h2 : sm (C 0) g.toNat = sm (fun x => if (true && ((0 : Int) == x)) = true then C 0 0 else 0) g.toNat := sm_c _ fun i i0 i1 => by
    by_cases e : i = 0
    · subst e; rw [if_pos (by simp)]
    · rw [if_neg (by simp; omega)]; exact hT 0 (by decide) (by omega) q i (by omega) (by omega)
  rw [h2, sm_one, if_pos ⟨rfl, by decide, by omega⟩] at h1
  exact q h1
theorem SUB_sm (g : Int) : SUB g (fun v => sm v g.toNat = 0) := ⟨sm_0 _, fun a v b w hv hw => by
    show sm (fun x => a * v x + b * w x) g.toNat = 0
    rw [sm_add, sm_mul, sm_mul, hv, hw]; simp, fun d v hd h => (Int.mul_eq_zero.mp ((sm_mul g.toNat).symm.trans h)).elim (fun q => absurd q hd) id, fun v w e h => by
    show sm w g.toNat = 0
    rw [← sm_c g.toNat (fun i h0 h1 => e i h0 (by omega))]; exact h⟩
/-- a cleared, primitive row is small -/
theorem NB_K {g : Int} {F : VC → Prop} {C : Int → VC} {v : VC} {x : Int} (hg : 2 ≤ g ∧ g ≤ 6) (hF : ∀ f, F f → NB g 3 f) (hT : TRI g C) (hC : ∀ x, 0 ≤ x → x < g → C x x ≠ 0 → SP g F (C x)) (hR : RED g (SP g F) C) (hx : 0 ≤ x ∧ x < g ∧ C x x ≠ 0)
    (hv : SP g F v) (hvx : v x ≠ 0) (hv0 : ∀ y, 0 ≤ y → y < g → C y y ≠ 0 → y ≠ x → v y = 0) (hvt : ∀ y, x < y → y < g → v y = 0) (hp : PRIM g v) : NB g 6561 v := by
  have hS := SP_sub g F
  have hsz : ∀ v, SP g F v → sm v g.toNat = 0 := fun v h => h _ (SUB_sm g) fun f hf => (hF f hf).1
  have p0 := piv0 (by omega) hsz hT hC
  have hx1 : 1 ≤ x := by
    by_cases e : x = 0
    · rw [e] at hx; exact absurd p0 hx.2.2
    · omega
  by_cases hall : ∀ y, 1 ≤ y → y < g → C y y ≠ 0
  · -- two places only
    have h0 : v 0 + v x = 0 := by
      have h1 := hsz v hv
      have h2 : sm v g.toNat = sm (fun y => (if (true && ((0 : Int) == y)) = true then v 0 else 0) + (if (true && (x == y)) = true then v x else 0)) g.toNat := sm_c _ fun i i0 i1 => by
        by_cases e : i = 0
        · subst e; rw [if_pos (by simp), if_neg (by simp; omega)]; simp
        · rw [if_neg (c := (true && ((0 : Int) == i)) = true) (by simp; omega)]
          by_cases e2 : i = x
          · subst e2; rw [if_pos (by simp)]; simp
          · rw [if_neg (by simp; omega)]; exact hv0 i i0 (by omega) (hall i (by omega) (by omega)) e2
      rw [h2, sm_add, sm_one, sm_one, if_pos ⟨rfl, by decide, by omega⟩, if_pos ⟨rfl, by omega, by omega⟩] at h1
      exact h1
    have h1 : v x ∣ 1 := hp (v x) 1 fun y y0 y1 => by
      rw [Int.one_mul]
      by_cases e : y = 0
      · subst e; exact ⟨-1, by omega⟩
      · by_cases e2 : y = x
        · rw [e2]; exact Int.dvd_refl _
        · rw [hv0 y y0 y1 (hall y (by omega) y1) e2]; exact ⟨0, by simp⟩
    have h2 : ab (v x) ≤ 1 := by
      have a := Int.le_of_dvd (by decide) h1
      have b := Int.le_of_dvd (a := -(v x)) (by decide) (Int.neg_dvd.mpr h1)
      rcases ab_d (v x) with q | q <;> omega
    refine ⟨hsz v hv, ?_⟩
    have h3 : sm (fun y => ab (v y)) g.toNat = sm (fun y => (if (true && ((0 : Int) == y)) = true then ab (v 0) else 0) + (if (true && (x == y)) = true then ab (v x) else 0)) g.toNat := sm_c _ fun i i0 i1 => by
      by_cases e : i = 0
      · subst e; rw [if_pos (by simp), if_neg (by simp; omega)]; simp
      · rw [if_neg (c := (true && ((0 : Int) == i)) = true) (by simp; omega)]
        by_cases e2 : i = x
        · subst e2; rw [if_pos (by simp)]; simp
        · rw [if_neg (by simp; omega), hv0 i i0 (by omega) (hall i (by omega) (by omega)) e2]; decide
    rw [h3, sm_add, sm_one, sm_one, if_pos ⟨rfl, by decide, by omega⟩, if_pos ⟨rfl, by omega, by omega⟩]
    have : ab (v 0) = ab (v x) := by rcases ab_d (v 0) with q | q <;> rcases ab_d (v x) with z | z <;> omega
    omega
  · obtain ⟨z, hz⟩ := Classical.not_forall.mp hall
    have hz1 : 1 ≤ z ∧ z < g ∧ C z z = 0 := by
      refine ⟨?_, ?_, ?_⟩
      · exact Classical.byContradiction fun q => hz fun a => absurd a q
      · exact Classical.byContradiction fun q => hz fun _ a => absurd a q
      · exact Classical.byContradiction fun q => hz fun _ _ => q
    have hxz : x ≠ z := fun e => hx.2.2 (e ▸ hz1.2.2)
    have hql : ((q5L x z).filter (fun y => decide (y < g) && C y y != 0)).length ≤ 3 := by
      have := q5_len x (q5_mem ⟨hx1, by omega⟩) z (q5_mem ⟨hz1.1, by omega⟩) hxz
      have h2 := List.length_filter_le (fun y => decide (y < g) && C y y != 0) (q5L x z)
      omega
    have hqm : ∀ y ∈ (q5L x z).filter (fun y => decide (y < g) && C y y != 0), (0 ≤ y ∧ y < g) ∧ C y y ≠ 0 ∧ y ≠ x := fun y hy => by
      obtain ⟨h1, h2⟩ := List.mem_filter.mp hy
      obtain ⟨h3, h4⟩ := List.mem_filter.mp h1
      simp at h2 h4
      have : 0 ≤ y := by
        simp at h3; omega
      exact ⟨⟨this, h2.1⟩, h2.2, h4.1⟩
    have hqi : ∀ y, 0 ≤ y → y < g → C y y ≠ 0 → y ≠ x → y ∈ (q5L x z).filter (fun y => decide (y < g) && C y y != 0) := fun y y0 y1 hy hyx => by
      have e0 : y ≠ 0 := fun e => hy (e ▸ p0)
      have ez : y ≠ z := fun e => hy (e ▸ hz1.2.2)
      exact List.mem_filter.mpr ⟨List.mem_filter.mpr ⟨q5_mem (by omega), by simp; exact ⟨hyx, ez⟩⟩, by simp; exact ⟨y1, hy⟩⟩
    obtain ⟨u, u1, u2, u3, u4⟩ := EXQ _ F 3 v (fun q hq => (hqm q hq).1) (by decide) hF hv ⟨x, hx.1, hx.2.1, hvx⟩ (fun q hq => hv0 q (hqm q hq).1.1 (hqm q hq).1.2 (hqm q hq).2.1 (hqm q hq).2.2)
    have u0 : ∀ y, 0 ≤ y → y < g → C y y ≠ 0 → y ≠ x → u y = 0 := fun y y0 y1 hy hyx => u3 y (hqi y y0 y1 hy hyx)
    have hux : u x ≠ 0 := fun q => by
      obtain ⟨y, y0, y1, y2⟩ := u2
      exact y2 (hR u u1 (fun y y0 y1 hy => by
        by_cases e : y = x
        · rw [e]; exact q
        · exact u0 y y0 y1 hy e) y y0 y1)
    obtain ⟨k, k1, k2⟩ := hp.mul (w := u) hvx (PROP hS hR ⟨hx.1, hx.2.1⟩ hv u1 hv0 u0)
    have hk : k ≠ 0 := fun e => hux (by rw [k1, e]; simp)
    have h9 := NB_div u4 hk k2
    refine NB_mono h9 (Int.le_trans (pw_mono (b := 3) (by decide) (Nat.pow_le_pow_right (by decide) hql)) (by decide))
