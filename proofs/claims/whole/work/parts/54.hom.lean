theorem gM_id {q : Nat} (hq : q < 7) {x y : Int} (hx : 0 ≤ x ∧ x < gO q) (hy : 0 ≤ y ∧ y < gO q) (e : gM q x y = y) : x = 0 := by
  have h := gM_as hq hx hy (gV_lt hq hy)
  rw [e, (gM_i hq hy).1, (gM_e hq hx).1] at h
  exact h.symm
theorem dm1 {g a b : Int} (hb : 0 ≤ b ∧ b < g) : (a * g + b) / g = a ∧ (a * g + b) % g = b := by
  have h1 : (a * g + b) / g = a := by
    rw [Int.add_comm, Int.add_mul_ediv_right _ _ (by omega), Int.ediv_eq_zero_of_lt hb.1 hb.2, Int.zero_add]
  refine ⟨h1, ?_⟩
  rw [Int.emod_def, h1, Int.mul_comm g a]
  omega
theorem wd2 {g a b N : Int} (hg : 1 ≤ g) (ha : 0 ≤ a ∧ a < N) (hb : 0 ≤ b ∧ b < g) : 0 ≤ a * g + b ∧ a * g + b < N * g := by
  have h1 : 0 ≤ a * g := Int.mul_nonneg ha.1 (by omega)
  have h2 : a * g ≤ (N - 1) * g := Int.mul_le_mul_of_nonneg_right (by omega) (by omega)
  rw [Int.sub_mul] at h2
  omega
theorem res_t {T : Int → Int} {q : Nat} {g n f : Int} {j : Nat} : resB T q g n j f = true ↔ ∀ e, 0 ≤ e → e < n → T (e + (gM q (dg g e j) f - dg g e j) * g ^ j) = gM q (T e) (T (f * g ^ j)) := by
  unfold resB
  rw [allR (p := fun e => resP T q g j f e)]
  constructor
  · intro h e h0 h1
    have := h e h0 h1
    unfold resP at this
    exact beq_iff_eq.mp this
  · intro h e h0 h1
    show resP T q g j f e = true
    unfold resP
    exact beq_iff_eq.mpr (h e h0 h1)
section HOM
variable {T : Int → Int} {q : Nat} {g : Int}
theorem hom2 (hq : q < 7) (hg : g = gO q) (hT : ∀ e, 0 ≤ e → e < g * g → 0 ≤ T e ∧ T e < g) (H0 : ∀ a b f, 0 ≤ a → a < g → 0 ≤ b → b < g → 1 ≤ f → f < g → T (a * g + gM q b f) = gM q (T (a * g + b)) (T f))
    (H1 : ∀ a b f, 0 ≤ a → a < g → 0 ≤ b → b < g → 1 ≤ f → f < g → T (gM q a f * g + b) = gM q (T (a * g + b)) (T (f * g)))
    {a b c f : Int} (ha : 0 ≤ a ∧ a < g) (hb : 0 ≤ b ∧ b < g) (hc : 0 ≤ c ∧ c < g) (hf : 0 ≤ f ∧ f < g) : T (gM q a c * g + gM q b f) = gM q (T (a * g + b)) (T (c * g + f)) := by
  have h6 := gO_le hq
  have hw : ∀ x y, 0 ≤ x → x < g → 0 ≤ y → y < g → 0 ≤ T (x * g + y) ∧ T (x * g + y) < gO q := fun x y x0 x1 y0 y1 => by
    have := wd2 (g := g) (by omega) ⟨x0, x1⟩ ⟨y0, y1⟩
    rw [← hg]; exact hT _ this.1 this.2
  have hs : ∀ y, 0 ≤ y → y < g → 0 ≤ T y ∧ T y < gO q := fun y y0 y1 => by
    have := hw 0 y (by omega) (by omega) y0 y1
    rw [Int.zero_mul, Int.zero_add] at this; exact this
  have z0 : T 0 = 0 := by
    have h1 := H0 0 0 1 (by omega) (by omega) (by omega) (by omega) (by omega) (by omega)
    rw [(gM_e hq (x := 1) (by omega)).2, Int.zero_mul, Int.zero_add, Int.zero_add] at h1
    exact gM_id hq (hs 0 (by omega) (by omega)) (hs 1 (by omega) (by omega)) h1.symm
  have K0 : ∀ a b f, 0 ≤ a → a < g → 0 ≤ b → b < g → 0 ≤ f → f < g → T (a * g + gM q b f) = gM q (T (a * g + b)) (T f) := fun a b f a0 a1 b0 b1 f0 f1 => by
    by_cases e : f = 0
    · rw [e, z0, (gM_e hq (x := b) (by omega)).1, (gM_e hq (hw a b a0 a1 b0 b1)).1]
    · exact H0 a b f a0 a1 b0 b1 (by omega) f1
  have K1 : ∀ a b f, 0 ≤ a → a < g → 0 ≤ b → b < g → 0 ≤ f → f < g → T (gM q a f * g + b) = gM q (T (a * g + b)) (T (f * g)) := fun a b f a0 a1 b0 b1 f0 f1 => by
    by_cases e : f = 0
    · rw [e, Int.zero_mul, z0, (gM_e hq (x := a) (by omega)).1, (gM_e hq (hw a b a0 a1 b0 b1)).1]
    · exact H1 a b f a0 a1 b0 b1 (by omega) f1
  have hac := gM_lt hq (x := a) (y := c) (by omega) (by omega)
  have e2 : T (c * g + f) = gM q (T (c * g)) (T f) := by
    have := K0 c 0 f hc.1 hc.2 (by omega) (by omega) hf.1 hf.2
    rw [(gM_e hq (x := f) (by omega)).2, Int.add_zero] at this; exact this
  have hcg := hw c 0 hc.1 hc.2 (by omega) (by omega)
  rw [Int.add_zero] at hcg
  rw [K0 _ b f hac.1 (by omega) hb.1 hb.2 hf.1 hf.2, K1 a b c ha.1 ha.2 hb.1 hb.2 hc.1 hc.2, e2, gM_as hq (hw a b ha.1 ha.2 hb.1 hb.2) hcg (hs f hf.1 hf.2)]
theorem hom3 (hq : q < 7) (hg : g = gO q) (hT : ∀ e, 0 ≤ e → e < g * g * g → 0 ≤ T e ∧ T e < g) (H0 : ∀ a b c f, 0 ≤ a → a < g → 0 ≤ b → b < g → 0 ≤ c → c < g → 1 ≤ f → f < g → T ((a * g + b) * g + gM q c f) = gM q (T ((a * g + b) * g + c)) (T f))
    (H1 : ∀ a b c f, 0 ≤ a → a < g → 0 ≤ b → b < g → 0 ≤ c → c < g → 1 ≤ f → f < g → T ((a * g + gM q b f) * g + c) = gM q (T ((a * g + b) * g + c)) (T (f * g)))
    (H2 : ∀ a b c f, 0 ≤ a → a < g → 0 ≤ b → b < g → 0 ≤ c → c < g → 1 ≤ f → f < g → T ((gM q a f * g + b) * g + c) = gM q (T ((a * g + b) * g + c)) (T (f * (g * g))))
    {a b c x y z : Int} (ha : 0 ≤ a ∧ a < g) (hb : 0 ≤ b ∧ b < g) (hc : 0 ≤ c ∧ c < g) (hx : 0 ≤ x ∧ x < g) (hy : 0 ≤ y ∧ y < g) (hz : 0 ≤ z ∧ z < g) :
    T ((gM q a x * g + gM q b y) * g + gM q c z) = gM q (T ((a * g + b) * g + c)) (T ((x * g + y) * g + z)) := by
  have h6 := gO_le hq
  have hw : ∀ x y z, 0 ≤ x → x < g → 0 ≤ y → y < g → 0 ≤ z → z < g → 0 ≤ T ((x * g + y) * g + z) ∧ T ((x * g + y) * g + z) < gO q := fun x y z x0 x1 y0 y1 z0 z1 => by
    have h1 := wd2 (g := g) (by omega) ⟨x0, x1⟩ ⟨y0, y1⟩
    have h2 := wd2 (g := g) (by omega) h1 ⟨z0, z1⟩
    rw [← hg]; exact hT _ h2.1 h2.2
  have e0 : ∀ z : Int, ((0 : Int) * g + 0) * g + z = z := fun z => by rw [Int.zero_mul, Int.zero_add, Int.zero_mul, Int.zero_add]
  have e1 : ∀ y : Int, ((0 : Int) * g + y) * g + 0 = y * g := fun y => by rw [Int.zero_mul, Int.zero_add, Int.add_zero]
  have e2 : ∀ x : Int, (x * g + 0) * g + 0 = x * (g * g) := fun x => by rw [Int.add_zero, Int.add_zero, Int.mul_assoc]
  have hs : ∀ y, 0 ≤ y → y < g → 0 ≤ T y ∧ T y < gO q := fun y y0 y1 => by
    have := hw 0 0 y (by omega) (by omega) (by omega) (by omega) y0 y1
    rw [e0] at this; exact this
  have hs1 : ∀ y, 0 ≤ y → y < g → 0 ≤ T (y * g) ∧ T (y * g) < gO q := fun y y0 y1 => by
    have := hw 0 y 0 (by omega) (by omega) y0 y1 (by omega) (by omega)
    rw [e1] at this; exact this
  have hs2 : ∀ y, 0 ≤ y → y < g → 0 ≤ T (y * (g * g)) ∧ T (y * (g * g)) < gO q := fun y y0 y1 => by
    have := hw y 0 0 y0 y1 (by omega) (by omega) (by omega) (by omega)
    rw [e2] at this; exact this
  have z0 : T 0 = 0 := by
    have h1 := H0 0 0 0 1 (by omega) (by omega) (by omega) (by omega) (by omega) (by omega) (by omega) (by omega)
    rw [(gM_e hq (x := 1) (by omega)).2, e0, e0] at h1
    exact gM_id hq (hs 0 (by omega) (by omega)) (hs 1 (by omega) (by omega)) h1.symm
  have K0 : ∀ a b c f, 0 ≤ a → a < g → 0 ≤ b → b < g → 0 ≤ c → c < g → 0 ≤ f → f < g → T ((a * g + b) * g + gM q c f) = gM q (T ((a * g + b) * g + c)) (T f) := fun a b c f a0 a1 b0 b1 c0 c1 f0 f1 => by
    by_cases e : f = 0
    · rw [e, z0, (gM_e hq (x := c) (by omega)).1, (gM_e hq (hw a b c a0 a1 b0 b1 c0 c1)).1]
    · exact H0 a b c f a0 a1 b0 b1 c0 c1 (by omega) f1
  have K1 : ∀ a b c f, 0 ≤ a → a < g → 0 ≤ b → b < g → 0 ≤ c → c < g → 0 ≤ f → f < g → T ((a * g + gM q b f) * g + c) = gM q (T ((a * g + b) * g + c)) (T (f * g)) := fun a b c f a0 a1 b0 b1 c0 c1 f0 f1 => by
    by_cases e : f = 0
    · rw [e, Int.zero_mul, z0, (gM_e hq (x := b) (by omega)).1, (gM_e hq (hw a b c a0 a1 b0 b1 c0 c1)).1]
    · exact H1 a b c f a0 a1 b0 b1 c0 c1 (by omega) f1
  have K2 : ∀ a b c f, 0 ≤ a → a < g → 0 ≤ b → b < g → 0 ≤ c → c < g → 0 ≤ f → f < g → T ((gM q a f * g + b) * g + c) = gM q (T ((a * g + b) * g + c)) (T (f * (g * g))) := fun a b c f a0 a1 b0 b1 c0 c1 f0 f1 => by
    by_cases e : f = 0
    · rw [e, Int.zero_mul, z0, (gM_e hq (x := a) (by omega)).1, (gM_e hq (hw a b c a0 a1 b0 b1 c0 c1)).1]
    · exact H2 a b c f a0 a1 b0 b1 c0 c1 (by omega) f1
  have hax := gM_lt hq (x := a) (y := x) (by omega) (by omega)
  have hby := gM_lt hq (x := b) (y := y) (by omega) (by omega)
  have e3 : T ((x * g + y) * g + z) = gM q (gM q (T (x * (g * g))) (T (y * g))) (T z) := by
    have h1 := K0 x y 0 z hx.1 hx.2 hy.1 hy.2 (by omega) (by omega) hz.1 hz.2
    have h2 := K1 x 0 0 y hx.1 hx.2 (by omega) (by omega) (by omega) (by omega) hy.1 hy.2
    rw [(gM_e hq (x := z) (by omega)).2] at h1
    rw [(gM_e hq (x := y) (by omega)).2, e2] at h2
    rw [h1, h2]
  have hX := hw a b c ha.1 ha.2 hb.1 hb.2 hc.1 hc.2
  have hA := hs2 x hx.1 hx.2
  have hB := hs1 y hy.1 hy.2
  have hC := hs z hz.1 hz.2
  rw [K0 _ _ c z hax.1 (by omega) hby.1 (by omega) hc.1 hc.2 hz.1 hz.2, K1 _ b c y hax.1 (by omega) hb.1 hb.2 hc.1 hc.2 hy.1 hy.2, K2 a b c x ha.1 ha.2 hb.1 hb.2 hc.1 hc.2 hx.1 hx.2, e3,
    gM_as hq hX hA hB, gM_as hq hX (gM_lt hq hA hB) hC]
end HOM
theorem homM {V : VV} {q : Nat} (h : MG V q) (ho : MO V) (ht : TRM V) : homB (V 58) q (V 55 1) (V 55 2) (V 55 3) = true ↔ ∀ d, 0 ≤ d → d < V 55 3 → ∀ e, 0 ≤ e → e < V 55 3 → V 58 (tWd q (gO q) (V 55 2) d e) = gM q (V 58 d) (V 58 e) := by
  have hq := h.1
  have h6 := gO_le hq
  have hb := ho.b
  rw [homB_t]
  obtain ⟨g, hg⟩ : ∃ g, g = V 55 1 := ⟨_, rfl⟩
  have hg2 : g = gO q := hg.trans h.2.1
  have hTR := ht
  unfold TRM at hTR
  have ho2 := ho.2.1
  have ho3 := ho.2.2
  rw [← hg] at hb ho2 ho3 hTR ⊢
  rw [← hg2]
  have p0 : g ^ 0 = 1 := Int.pow_zero _
  have p1 : g ^ 1 = g := by rw [Int.pow_succ, Int.pow_zero, Int.one_mul]
  have p2 : g ^ 2 = g * g := by rw [Int.pow_succ, p1]
  rcases ho2 with ⟨w2, n2⟩ | ⟨w3, n2⟩
  · rw [w2]
    rw [n2] at ho3
    rw [ho3] at hTR ⊢
    constructor
    · intro H d d0 d1 e e0 e1
      have H0 : ∀ a b f, 0 ≤ a → a < g → 0 ≤ b → b < g → 1 ≤ f → f < g → V 58 (a * g + gM q b f) = gM q (V 58 (a * g + b)) (V 58 f) := fun a b f a0 a1 b0 b1 f0 f1 => by
        have k := wd2 (g := g) (by omega) ⟨a0, a1⟩ ⟨b0, b1⟩
        have r := res_t.mp (H 1 (by omega) (by omega) f f0 f1) _ k.1 k.2
        rw [show ((2 : Int) - 1 - 1).toNat = 0 from rfl, dg_0, (dm1 ⟨b0, b1⟩).2, p0, Int.mul_one, Int.mul_one, show a * g + b + (gM q b f - b) = a * g + gM q b f by omega] at r
        exact r
      have H1 : ∀ a b f, 0 ≤ a → a < g → 0 ≤ b → b < g → 1 ≤ f → f < g → V 58 (gM q a f * g + b) = gM q (V 58 (a * g + b)) (V 58 (f * g)) := fun a b f a0 a1 b0 b1 f0 f1 => by
        have k := wd2 (g := g) (by omega) ⟨a0, a1⟩ ⟨b0, b1⟩
        have r := res_t.mp (H 0 (by omega) (by omega) f f0 f1) _ k.1 k.2
        rw [show ((2 : Int) - 1 - 0).toNat = 1 from rfl, dg_1, (dm1 ⟨b0, b1⟩).1, Int.emod_eq_of_lt a0 a1, p1, Int.sub_mul, show a * g + b + (gM q a f * g - a * g) = gM q a f * g + b by omega] at r
        exact r
      have m1 := md_b d (n := g) (by omega)
      have m2 := md_b e (n := g) (by omega)
      have q1 : 0 ≤ d / g ∧ d / g < g := ⟨Int.ediv_nonneg d0 (by omega), Int.ediv_lt_of_lt_mul (by omega) d1⟩
      have q2 : 0 ≤ e / g ∧ e / g < g := ⟨Int.ediv_nonneg e0 (by omega), Int.ediv_lt_of_lt_mul (by omega) e1⟩
      have r := hom2 hq hg2 hTR H0 H1 q1 m1 q2 m2
      have s1 : d / g * g + d % g = d := by have := Int.emod_add_mul_ediv d g; rw [Int.mul_comm] at this; omega
      have s2 : e / g * g + e % g = e := by have := Int.emod_add_mul_ediv e g; rw [Int.mul_comm] at this; omega
      rw [s1, s2] at r
      unfold tWd
      rw [if_pos rfl, Int.emod_eq_of_lt q1.1 q1.2, Int.emod_eq_of_lt q2.1 q2.2, Int.mul_comm g]
      exact r
    · intro H p hp0 hp1 f f0 f1
      refine res_t.mpr fun e e0 e1 => ?_
      have q2 : 0 ≤ e / g ∧ e / g < g := ⟨Int.ediv_nonneg e0 (by omega), Int.ediv_lt_of_lt_mul (by omega) e1⟩
      have m2 := md_b e (n := g) (by omega)
      have s2 : e / g * g + e % g = e := by have := Int.emod_add_mul_ediv e g; rw [Int.mul_comm] at this; omega
      rcases (by omega : p = 0 ∨ p = 1) with rfl | rfl
      · have k := wd2 (g := g) (a := f) (b := 0) (N := g) (by omega) (by omega) (by omega)
        rw [Int.add_zero] at k
        have r := H e e0 e1 (f * g) k.1 k.2
        have k2 := dm1 (g := g) (a := f) (b := 0) (by omega)
        rw [Int.add_zero] at k2
        unfold tWd at r
        rw [if_pos rfl, k2.1, k2.2, Int.emod_eq_of_lt q2.1 q2.2, Int.emod_eq_of_lt (by omega) f1, (gM_e hq (x := e % g) (by omega)).1] at r
        rw [show ((2 : Int) - 1 - 0).toNat = 1 from rfl, dg_1, Int.emod_eq_of_lt q2.1 q2.2, p1, Int.sub_mul, ← r, Int.mul_comm g]
        congr 1
        omega
      · have r := H e e0 e1 f (by omega) (Int.lt_of_lt_of_le f1 (by have := Int.mul_le_mul_of_nonneg_right (show 1 ≤ g by omega) (show 0 ≤ g by omega); omega))
        unfold tWd at r
        rw [if_pos rfl, Int.ediv_eq_zero_of_lt (by omega) f1, Int.emod_eq_of_lt q2.1 q2.2, Int.emod_eq_of_lt (a := f) (by omega) f1, show (0 : Int) % g = 0 from Int.zero_emod _, (gM_e hq (x := e / g) (by omega)).1] at r
        rw [show ((2 : Int) - 1 - 1).toNat = 0 from rfl, dg_0, p0, Int.mul_one, Int.mul_one, ← r, Int.mul_comm g]
        congr 1
        omega
  · rw [w3]
    rw [n2] at ho3
    rw [ho3] at hTR ⊢
    have gg : g ≤ g * g := by have := Int.mul_le_mul_of_nonneg_right (show 1 ≤ g by omega) (show 0 ≤ g by omega); omega
    have ggg : g * g ≤ g * g * g := by have := Int.mul_le_mul_of_nonneg_left (show 1 ≤ g by omega) (show 0 ≤ g * g by omega); omega
    have spl : ∀ e, 0 ≤ e → e < g * g * g → (0 ≤ e / g / g ∧ e / g / g < g) ∧ (0 ≤ e / g % g ∧ e / g % g < g) ∧ (0 ≤ e % g ∧ e % g < g) ∧ (e / g / g * g + e / g % g) * g + e % g = e := fun e e0 e1 => by
      have q0 : 0 ≤ e / g := Int.ediv_nonneg e0 (by omega)
      refine ⟨⟨Int.ediv_nonneg q0 (by omega), Int.ediv_lt_of_lt_mul (by omega) (Int.ediv_lt_of_lt_mul (by omega) e1)⟩, md_b _ (by omega), md_b _ (by omega), ?_⟩
      have s1 : e / g / g * g + e / g % g = e / g := by have := Int.emod_add_mul_ediv (e / g) g; rw [Int.mul_comm] at this; omega
      rw [s1]
      have := Int.emod_add_mul_ediv e g
      rw [Int.mul_comm] at this
      omega
    have fld : ∀ a b c, 0 ≤ a → a < g → 0 ≤ b → b < g → 0 ≤ c → c < g → (0 ≤ (a * g + b) * g + c ∧ (a * g + b) * g + c < g * g * g) ∧ dg g ((a * g + b) * g + c) 0 = c ∧ dg g ((a * g + b) * g + c) 1 = b ∧ dg g ((a * g + b) * g + c) 2 = a := fun a b c a0 a1 b0 b1 c0 c1 => by
      refine ⟨wd2 (by omega) (wd2 (by omega) ⟨a0, a1⟩ ⟨b0, b1⟩) ⟨c0, c1⟩, ?_, ?_, ?_⟩
      · rw [dg_0, (dm1 ⟨c0, c1⟩).2]
      · rw [dg_1, (dm1 ⟨c0, c1⟩).1, (dm1 ⟨b0, b1⟩).2]
      · rw [dg_2 (by omega), (dm1 ⟨c0, c1⟩).1, (dm1 ⟨b0, b1⟩).1, Int.emod_eq_of_lt a0 a1]
    constructor
    · intro H d d0 d1 e e0 e1
      have H0 : ∀ a b c f, 0 ≤ a → a < g → 0 ≤ b → b < g → 0 ≤ c → c < g → 1 ≤ f → f < g → V 58 ((a * g + b) * g + gM q c f) = gM q (V 58 ((a * g + b) * g + c)) (V 58 f) := fun a b c f a0 a1 b0 b1 c0 c1 f0 f1 => by
        have k := fld a b c a0 a1 b0 b1 c0 c1
        have r := res_t.mp (H 2 (by omega) (by omega) f f0 f1) _ k.1.1 k.1.2
        rw [show ((3 : Int) - 1 - 2).toNat = 0 from rfl, k.2.1, p0, Int.mul_one, Int.mul_one, show (a * g + b) * g + c + (gM q c f - c) = (a * g + b) * g + gM q c f by omega] at r
        exact r
      have H1 : ∀ a b c f, 0 ≤ a → a < g → 0 ≤ b → b < g → 0 ≤ c → c < g → 1 ≤ f → f < g → V 58 ((a * g + gM q b f) * g + c) = gM q (V 58 ((a * g + b) * g + c)) (V 58 (f * g)) := fun a b c f a0 a1 b0 b1 c0 c1 f0 f1 => by
        have k := fld a b c a0 a1 b0 b1 c0 c1
        have r := res_t.mp (H 1 (by omega) (by omega) f f0 f1) _ k.1.1 k.1.2
        rw [show ((3 : Int) - 1 - 1).toNat = 1 from rfl, k.2.2.1, p1, show (a * g + b) * g + c + (gM q b f - b) * g = (a * g + gM q b f) * g + c by rw [Int.sub_mul, Int.add_mul, Int.add_mul]; omega] at r
        exact r
      have H2 : ∀ a b c f, 0 ≤ a → a < g → 0 ≤ b → b < g → 0 ≤ c → c < g → 1 ≤ f → f < g → V 58 ((gM q a f * g + b) * g + c) = gM q (V 58 ((a * g + b) * g + c)) (V 58 (f * (g * g))) := fun a b c f a0 a1 b0 b1 c0 c1 f0 f1 => by
        have k := fld a b c a0 a1 b0 b1 c0 c1
        have r := res_t.mp (H 0 (by omega) (by omega) f f0 f1) _ k.1.1 k.1.2
        rw [show ((3 : Int) - 1 - 0).toNat = 2 from rfl, k.2.2.2, p2, show (a * g + b) * g + c + (gM q a f - a) * (g * g) = (gM q a f * g + b) * g + c by rw [Int.sub_mul, Int.add_mul, Int.add_mul, Int.mul_assoc, Int.mul_assoc]; omega] at r
        exact r
      obtain ⟨d2, d3, d4, s1⟩ := spl d d0 d1
      obtain ⟨e2, e3, e4, s2⟩ := spl e e0 e1
      have r := hom3 hq hg2 hTR H0 H1 H2 d2 d3 d4 e2 e3 e4
      rw [s1, s2] at r
      unfold tWd
      rw [if_neg (by decide), Int.mul_comm g, Int.mul_comm g (gM q (d / g / g) (e / g / g))]
      exact r
    · intro H p hp0 hp1 f f0 f1
      refine res_t.mpr fun e e0 e1 => ?_
      obtain ⟨e2, e3, e4, s2⟩ := spl e e0 e1
      have t0 : tWd q g 3 e f = e + (gM q (e % g) f - e % g) := by
        unfold tWd
        rw [if_neg (by decide), Int.ediv_eq_zero_of_lt (by omega) f1, Int.emod_eq_of_lt (a := f) (by omega) f1, Int.zero_emod, Int.zero_ediv, (gM_e hq (x := e / g % g) (by omega)).1, (gM_e hq (x := e / g / g) (by omega)).1, Int.mul_comm g, Int.mul_comm g]
        omega
      have k1 := dm1 (g := g) (a := f) (b := 0) (by omega)
      rw [Int.add_zero] at k1
      have t1 : tWd q g 3 e (f * g) = e + (gM q (e / g % g) f - e / g % g) * g := by
        unfold tWd
        rw [if_neg (by decide), k1.1, k1.2, Int.ediv_eq_zero_of_lt (by omega) f1, Int.emod_eq_of_lt (a := f) (by omega) f1, (gM_e hq (x := e % g) (by omega)).1, (gM_e hq (x := e / g / g) (by omega)).1, Int.mul_comm g, Int.mul_comm g, Int.sub_mul]
        have := s2
        rw [Int.add_mul] at this ⊢
        omega
      have k2 := dm1 (g := g) (a := f * g) (b := 0) (by omega)
      rw [Int.add_zero] at k2
      have t2 : tWd q g 3 e (f * (g * g)) = e + (gM q (e / g / g) f - e / g / g) * (g * g) := by
        unfold tWd
        rw [if_neg (by decide), ← Int.mul_assoc f g g, k2.1, k2.2, k1.1, k1.2, (gM_e hq (x := e % g) (by omega)).1, (gM_e hq (x := e / g % g) (by omega)).1, Int.mul_comm g, Int.mul_comm g, Int.sub_mul]
        have := s2
        rw [Int.add_mul, Int.mul_assoc] at this ⊢
        omega
      have b1 := wd2 (g := g) (a := f) (b := 0) (N := g) (by omega) (by omega) (by omega)
      rw [Int.add_zero] at b1
      have b2 := wd2 (g := g) (a := f * g) (b := 0) (N := g * g) (by omega) b1 (by omega)
      rw [Int.add_zero, Int.mul_assoc f g g] at b2
      rcases (by omega : p = 0 ∨ p = 1 ∨ p = 2) with rfl | rfl | rfl
      · have r := H e e0 e1 (f * (g * g)) b2.1 b2.2
        rw [t2] at r
        rw [show ((3 : Int) - 1 - 0).toNat = 2 from rfl, dg_2 (by omega), Int.emod_eq_of_lt e2.1 e2.2, p2]
        exact r
      · have r := H e e0 e1 (f * g) b1.1 (Int.lt_of_lt_of_le b1.2 ggg)
        rw [t1] at r
        rw [show ((3 : Int) - 1 - 1).toNat = 1 from rfl, dg_1, p1]
        exact r
      · have r := H e e0 e1 f (by omega) (by omega)
        rw [t0] at r
        rw [show ((3 : Int) - 1 - 2).toNat = 0 from rfl, dg_0, p0, Int.mul_one, Int.mul_one]
        exact r
