/-! Euclid's way; equations -/
def fbP : Nat → Int × Int
  | 0 => (0, 1)
  | n + 1 => ((fbP n).2, (fbP n).1 + (fbP n).2)
abbrev fbn (n : Nat) : Int := (fbP n).1
theorem fb_S (n : Nat) : fbn (n + 2) = fbn n + fbn (n + 1) := rfl
theorem fb_101 : 9223372036854775807 ≤ fbn 101 := by decide +kernel
def EUK (n : Nat) (a b : Int) : Prop := 0 ≤ b ∧ b < a ∧ (b < fbn (n + 1) ∨ a < fbn (n + 2))
theorem EUK_s {n : Nat} {a b : Int} (h : EUK (n + 1) a b) (hb : b ≠ 0) : EUK n b (a % b) := by
  obtain ⟨h0, h1, h2⟩ := h
  have m := md_b a (n := b) (by omega)
  refine ⟨m.1, m.2, ?_⟩
  by_cases q : b < fbn (n + 2)
  · exact Or.inr q
  · left
    have h3 : a < fbn (n + 3) := h2.elim (fun z => absurd z q) id
    have h4 := fb_S (n + 1)
    have h5 : a % b ≤ a - b := by
      have e : (a - b) % b = a % b := by rw [Int.sub_emod, Int.emod_self, Int.sub_zero, Int.emod_emod_of_dvd _ (Int.dvd_refl b)]
      rw [← e]
      have e1 := Int.mul_ediv_add_emod (a - b) b
      have e2 := Int.mul_nonneg (show 0 ≤ b by omega) (Int.ediv_nonneg (show 0 ≤ a - b by omega) (show 0 ≤ b by omega))
      omega
    show a % b < fbn (n + 1)
    have h6 : fbn (n + 1 + 2) = fbn (n + 3) := rfl
    have h7 : fbn (n + 1 + 1) = fbn (n + 2) := rfl
    omega
theorem EUK_0 {a b : Int} (h : EUK 0 a b) : b = 0 := by
  obtain ⟨h0, h1, h2⟩ := h
  have e1 : fbn (0 + 1) = 1 := rfl
  have e2 : fbn (0 + 2) = 1 := rfl
  omega
theorem gcd_st {a b : Int} (ha : 0 ≤ a) (hb : 0 ≤ b) : Int.gcd b (a % b) = Int.gcd a b := by
  rw [Int.gcd_eq_natAbs_gcd_natAbs, Int.gcd_eq_natAbs_gcd_natAbs, Int.natAbs_emod_of_nonneg ha, Nat.gcd_comm a.natAbs, Nat.gcd_rec b.natAbs a.natAbs, Nat.gcd_comm]
def ind (a x : Int) : Int := if x = a then 1 else 0
theorem ind_d (a x : Int) : (x = a ∧ ind a x = 1) ∨ (x ≠ a ∧ ind a x = 0) := by
  unfold ind
  by_cases h : x = a
  · exact Or.inl ⟨h, if_pos h⟩
  · exact Or.inr ⟨h, if_neg h⟩
theorem up_ind (V : VV) (s d x : Int) : (up V 46 s (V 46 s + d)) 46 x = V 46 x + d * ind s x := by
  rcases ind_d s x with ⟨e, q⟩ | ⟨e, q⟩
  · rw [q, e, up_s, Int.mul_one]
  · rw [q, up_n _ (by omega), Int.mul_zero, Int.add_zero]
def eqV (T : Int → Int) (g N e : Int) : VC := fun x => 0 + 1 * ind (T e) x + -1 * ind (e / N) x + 1 * ind (T (e / g)) x + 1 * ind (T (e / g / g)) x + -1 * ind (T (e % N)) x + -1 * ind (T (e % N / g)) x
def QB (g s k : Int) (v : VC) : Prop := sm v g.toNat = s ∧ sm (fun x => ab (v x)) g.toNat ≤ k
theorem QB_add {g s k a d : Int} {v : VC} (h : QB g s k v) (ha : 0 ≤ a ∧ a < g) (hd : d = 1 ∨ d = -1) : QB g (s + d) (k + 1) (fun x => v x + d * ind a x) := by
  have e1 : sm (ind a) g.toNat = 1 := by
    have := sm_one (p := true) (k := a) (x := 1) g.toNat
    rw [if_pos ⟨rfl, ha.1, by omega⟩] at this
    rw [← this]
    exact sm_c _ fun i _ _ => by
      rcases ind_d a i with ⟨e, q⟩ | ⟨e, q⟩
      · rw [q, if_pos (by simp [e])]
      · rw [q, if_neg (by simp; omega)]
  refine ⟨?_, ?_⟩
  · rw [sm_add, sm_mul, e1, h.1]; omega
  · have : sm (fun x => ab (v x + d * ind a x)) g.toNat ≤ sm (fun x => ab (v x) + ind a x) g.toNat := sm_le _ fun i _ _ => by
      have a1 := ab_d (v i)
      have a2 := ab_d (v i + d * ind a i)
      rcases ind_d a i with ⟨e, q⟩ | ⟨e, q⟩ <;> rcases hd with hd | hd <;> rw [q, hd] at a2 ⊢ <;> omega
    rw [sm_add] at this
    have h3 : sm (fun x => ind a x) g.toNat = 1 := e1
    have h2 := h.2
    show sm (fun x => ab (v x + d * ind a x)) g.toNat ≤ k + 1
    omega
theorem eqV_b {T : Int → Int} {g N n e : Int} (hg : 1 ≤ g) (hN : 1 ≤ N) (hn : n = N * g) (hNg : N ≤ g * g) (hT : ∀ e, 0 ≤ e → e < n → 0 ≤ T e ∧ T e < g) (he : 0 ≤ e ∧ e < n) : NB g 3 (eqV T g N e) := by
  have hle : ∀ a, 0 ≤ a → a < N → 0 ≤ a ∧ a < n := fun a h0 h1 => ⟨h0, by have := Int.mul_le_mul_of_nonneg_left (a := 1) (b := g) (c := N) hg (by omega); omega⟩
  have d1 : 0 ≤ e / g ∧ e / g < N := ⟨Int.ediv_nonneg he.1 (by omega), Int.ediv_lt_of_lt_mul (by omega) (by omega)⟩
  have d2 : 0 ≤ e / N ∧ e / N < g := ⟨Int.ediv_nonneg he.1 (by omega), Int.ediv_lt_of_lt_mul (by omega) (by rw [Int.mul_comm]; omega)⟩
  have dd : ∀ a, 0 ≤ a → a < N → 0 ≤ a / g ∧ a / g < N := fun a h0 h1 => ⟨Int.ediv_nonneg h0 (by omega), Int.lt_of_le_of_lt (Int.ediv_le_self _ h0) h1⟩
  have d3 := md_b e hN
  have t1 := hT _ he.1 he.2
  have t2 := hT _ (hle _ d1.1 d1.2).1 (hle _ d1.1 d1.2).2
  have t3 := hT _ (hle _ (dd _ d1.1 d1.2).1 (dd _ d1.1 d1.2).2).1 (hle _ (dd _ d1.1 d1.2).1 (dd _ d1.1 d1.2).2).2
  have t4 := hT _ (hle _ d3.1 d3.2).1 (hle _ d3.1 d3.2).2
  have t5 := hT _ (hle _ (dd _ d3.1 d3.2).1 (dd _ d3.1 d3.2).2).1 (hle _ (dd _ d3.1 d3.2).1 (dd _ d3.1 d3.2).2).2
  have q0 : QB g 0 0 (fun _ => 0) := ⟨sm_0 _, by rw [show (fun _ : Int => ab 0) = fun _ => 0 from rfl, sm_0]; exact Int.le_refl _⟩
  have q := QB_add (QB_add (QB_add (QB_add (QB_add (QB_add q0 t1 (Or.inl rfl)) d2 (Or.inr rfl)) t2 (Or.inl rfl)) t3 (Or.inl rfl)) t4 (Or.inr rfl)) t5 (Or.inr rfl)
  exact ⟨q.1, q.2⟩
/-! the echelon rows while equations are added -/
def ROW (g : Int) (C : Int → VC) : VC → Prop := fun w => ∃ x, 0 ≤ x ∧ x < g ∧ C x x ≠ 0 ∧ w = C x
def bet (x : Int) : Int := 3 ^ (2 ^ (5 - x).toNat)
theorem bet_sq {x : Int} (h : x ≤ 5) : bet x * bet x = bet (x - 1) := by
  unfold bet
  rw [show (5 - (x - 1)).toNat = (5 - x).toNat + 1 by omega, Nat.pow_succ, Int.pow_mul, Int.pow_succ, Int.pow_one]
theorem bet_3 (x : Int) : 3 ≤ bet x := by
  unfold bet
  have h : 1 ≤ 2 ^ (5 - x).toNat := Nat.one_le_two_pow
  exact pw_mono (b := 3) (by decide) h
theorem bet_mono {x y : Int} (h : x ≤ y) : bet y ≤ bet x := pw_mono (by decide) (Nat.pow_le_pow_right (by decide) (by omega))
theorem bet_0 {x : Int} (h : 0 ≤ x) : bet x ≤ 1853020188851841 := Int.le_trans (bet_mono h) (by decide +kernel)
def CIr (g : Int) (F : VC → Prop) (C : Int → VC) : Prop := TRI g C ∧ (∀ x, 0 ≤ x → x < g → C x x ≠ 0 → SP g F (C x)) ∧ (∀ f, F f → SP g (ROW g C) f) ∧ (∀ x, 0 ≤ x → x < g → C x x ≠ 0 → NB g (bet x) (C x) ∧ (PRIM g (C x) ∨ NB g 3 (C x))) ∧ ∀ f, F f → NB g 3 f
def CE (g : Int) (F : VC → Prop) (f : VC) (C : Int → VC) (x : Int) (v : VC) : Prop := (∀ y, x < y → y < g → v y = 0) ∧ SP g (fun u => F u ∨ u = f) v ∧ SP g (fun w => ROW g C w ∨ w = v) f ∧ NB g (bet x) v ∧ (∀ z, 0 ≤ z → z < g → v z ≠ 0 → PRIM g v ∨ NB g 3 v) ∧ NB g 3 f
theorem SP_e {g : Int} {A : VC → Prop} {v w : VC} (h : SP g A v) (e : ∀ x, 0 ≤ x → x < g → v x = w x) : SP g A w := (SP_sub g A).2.2.2 _ _ e h
theorem CE_0 {g : Int} {F : VC → Prop} {f v : VC} {C : Int → VC} (hg : g ≤ 6) (hf : NB g 3 f) (e : ∀ x, 0 ≤ x → x < g → v x = f x) : CE g F f C (g - 1) v :=
  ⟨fun y h0 h1 => by omega, SP_e (SP_in (Or.inr rfl)) (fun x h0 h1 => (e x h0 h1).symm), SP_e (SP_in (Or.inr rfl)) e, NB_mono (NB_c hf (fun x h0 h1 => (e x h0 h1).symm)) (bet_3 _), fun _ _ _ _ => Or.inr (NB_c hf (fun x h0 h1 => (e x h0 h1).symm)), hf⟩
theorem CE_skip {g : Int} {F : VC → Prop} {f v : VC} {C : Int → VC} {x : Int} (h : CE g F f C x v) (hx : v x = 0) : CE g F f C (x - 1) v := by
  obtain ⟨a, b, c, d, e, k⟩ := h
  refine ⟨fun y h0 h1 => ?_, b, c, NB_mono d (bet_mono (by omega)), e, k⟩
  by_cases q : y = x
  · rw [q]; exact hx
  · exact a y (by omega) h1
theorem CE_pos {g : Int} {F : VC → Prop} {f v : VC} {C : Int → VC} {x : Int} (h : CE g F f C x v) (h0 : 0 ≤ x) (h1 : x < g) (hx : v x ≠ 0) : 1 ≤ x := by
  by_cases e : x = 0
  · subst e
    exfalso
    have h2 : sm v g.toNat = sm (fun z => if (true && ((0 : Int) == z)) = true then v 0 else 0) g.toNat := sm_c _ fun i i0 i1 => by
      by_cases e : i = 0
      · subst e; rw [if_pos (by simp)]
      · rw [if_neg (by simp; omega)]; exact h.1 i (by omega) (by omega)
    have h3 := h.2.2.2.1.1
    rw [h2, sm_one, if_pos ⟨rfl, by decide, by omega⟩] at h3
    exact hx h3
  · omega
theorem elm_s (v u : VC) (p : Int) : elm v u p p = 0 := by unfold elm; rw [Int.mul_comm]; omega
theorem CE_el {g : Int} {F : VC → Prop} {f v v' : VC} {C : Int → VC} {x : Int} (hC : CIr g F C) (h : CE g F f C x v) (x0 : 0 ≤ x ∧ x < g ∧ x ≤ 5) (hp : C x x ≠ 0) (hn : NRM g (elm v (C x) x) v') : CE g F f C (x - 1) v' := by
  obtain ⟨a, b, c, d, e, k⟩ := h
  obtain ⟨cT, cS, cF, cN, cB⟩ := hC
  obtain ⟨dd, hd, ed⟩ := hn.e
  have hU : SP g (fun u => F u ∨ u = f) (C x) := SP_le (fun u hu => SP_in (Or.inl hu)) (cS x x0.1 x0.2.1 hp)
  have hE : SP g (fun u => F u ∨ u = f) (elm v (C x) x) := (SP_sub _ _).el b hU x
  refine ⟨fun y h0 h1 => ?_, ?_, ?_, ?_, ?_, k⟩
  · have hz : elm v (C x) x y = 0 := by
      by_cases q : y = x
      · rw [q]; exact elm_s ..
      · unfold elm; rw [a y (by omega) h1, cT x x0.1 x0.2.1 hp y (by omega) h1]; simp
    have := ed y (by omega) h1
    rw [hz] at this
    exact (Int.mul_eq_zero.mp this.symm).elim (fun q => by omega) id
  · exact (SP_sub _ _).2.2.1 dd v' (by omega) (SP_e hE ed)
  · refine SP_le (fun u hu => ?_) c
    rcases hu with hu | hu
    · exact SP_in (Or.inl hu)
    · subst hu
      refine (SP_sub _ _).2.2.1 (C x x) u hp (SP_e ((SP_sub _ _).2.1 dd v' (u x) (C x) (SP_in (Or.inr rfl)) (SP_in (Or.inl ⟨x, x0.1, x0.2.1, hp, rfl⟩))) fun z z0 z1 => ?_)
      show dd * v' z + u x * C x z = C x x * u z
      rw [← ed z z0 z1]; unfold elm
      rw [Int.mul_comm (u x), Int.mul_comm (u z)]; omega
  · rw [← bet_sq x0.2.2]
    exact hn.nb (NB_el d (cN x x0.1 x0.2.1 hp).1 x0.1 x0.2.1)
  · intro z z0 z1 hz
    exact Or.inl (hn.p z0 z1 hz)
theorem CE_end {g : Int} {F : VC → Prop} {f v : VC} {C : Int → VC} (hC : CIr g F C) (h : CE g F f C (-1) v) : CIr g (fun u => F u ∨ u = f) C := by
  obtain ⟨a, b, c, d, e, k⟩ := h
  obtain ⟨cT, cS, cF, cN, cB⟩ := hC
  refine ⟨cT, fun x x0 x1 hx => SP_le (fun u hu => SP_in (Or.inl hu)) (cS x x0 x1 hx), fun u hu => ?_, cN, fun u hu => hu.elim (cB u) (fun q => q ▸ k)⟩
  rcases hu with hu | hu
  · exact cF u hu
  · subst hu
    refine SP_le (fun w hw => ?_) c
    rcases hw with hw | hw
    · exact SP_in hw
    · subst hw
      exact SP_e (SP_sub g (ROW g C)).1 (fun x x0 x1 => (a x (by omega) x1).symm)
theorem CE_keep {g : Int} {F : VC → Prop} {f v : VC} {C C' : Int → VC} {x : Int} (hC : CIr g F C) (h : CE g F f C x v) (x0 : 0 ≤ x ∧ x < g) (hp : C x x = 0) (hv : v x ≠ 0) (e1 : ∀ z, 0 ≤ z → z < g → C' x z = v z) (e2 : ∀ y, 0 ≤ y → y < g → y ≠ x → ∀ z, 0 ≤ z → z < g → C' y z = C y z) : CIr g (fun u => F u ∨ u = f) C' := by
  obtain ⟨a, b, c, d, e, k⟩ := h
  obtain ⟨cT, cS, cF, cN, cB⟩ := hC
  have hx' : C' x x ≠ 0 := by rw [e1 x x0.1 x0.2]; exact hv
  have rows : ∀ u, ROW g C u → SP g (ROW g C') u := fun u ⟨y, y0, y1, y2, y3⟩ => by
    have q : y ≠ x := fun q => y2 (q ▸ hp)
    subst y3
    exact SP_e (SP_in ⟨y, y0, y1, by rw [e2 y y0 y1 q y y0 y1]; exact y2, rfl⟩) (e2 y y0 y1 q)
  refine ⟨fun y y0 y1 hy z z0 z1 => ?_, fun y y0 y1 hy => ?_, fun u hu => ?_, fun y y0 y1 hy => ?_, fun u hu => hu.elim (cB u) (fun q => q ▸ k)⟩
  · by_cases q : y = x
    · rw [q] at z0 ⊢; rw [e1 z (by omega) z1]; exact a z z0 z1
    · rw [e2 y y0 y1 q z (by omega) z1]
      exact cT y y0 y1 (by rw [← e2 y y0 y1 q y y0 y1]; exact hy) z z0 z1
  · by_cases q : y = x
    · rw [q]; exact SP_e b (fun z z0 z1 => (e1 z z0 z1).symm)
    · exact SP_e (SP_le (fun u hu => SP_in (Or.inl hu)) (cS y y0 y1 (by rw [← e2 y y0 y1 q y y0 y1]; exact hy))) (fun z z0 z1 => (e2 y y0 y1 q z z0 z1).symm)
  · rcases hu with hu | hu
    · exact SP_le rows (cF u hu)
    · subst hu
      refine SP_le (fun w hw => ?_) c
      rcases hw with hw | hw
      · exact rows w hw
      · subst hw
        exact SP_e (SP_in ⟨x, x0.1, x0.2, hx', rfl⟩) e1
  · by_cases q : y = x
    · rw [q]
      refine ⟨NB_c d (fun z z0 z1 => (e1 z z0 z1).symm), ?_⟩
      rcases e x x0.1 x0.2 hv with h | h
      · exact Or.inl (h.c fun z z0 z1 => (e1 z z0 z1).symm)
      · exact Or.inr (NB_c h fun z z0 z1 => (e1 z z0 z1).symm)
    · have h9 := cN y y0 y1 (by rw [← e2 y y0 y1 q y y0 y1]; exact hy)
      refine ⟨NB_c h9.1 (fun z z0 z1 => (e2 y y0 y1 q z z0 z1).symm), ?_⟩
      rcases h9.2 with h | h
      · exact Or.inl (h.c fun z z0 z1 => (e2 y y0 y1 q z z0 z1).symm)
      · exact Or.inr (NB_c h fun z z0 z1 => (e2 y y0 y1 q z z0 z1).symm)
/-! clearing -/
def CL (g : Int) (F : VC → Prop) (C : Int → VC) (k : Int) : Prop := TRI g C ∧ (∀ x, 0 ≤ x → x < g → C x x ≠ 0 → SP g F (C x)) ∧ (∀ f, F f → SP g (ROW g C) f) ∧ (∀ x, 0 ≤ x → x < g → C x x ≠ 0 → k ≤ x → NB g (bet x) (C x) ∧ (PRIM g (C x) ∨ NB g 3 (C x))) ∧ (∀ f, F f → NB g 3 f) ∧ ∀ x, 0 ≤ x → x < g → C x x ≠ 0 → x < k → NB g 6561 (C x) ∧ ∀ y, 0 ≤ y → y < x → C y y ≠ 0 → C x y = 0
def CK (g : Int) (F : VC → Prop) (C : Int → VC) (k x : Int) (v : VC) : Prop := (∀ y, k < y → y < g → v y = 0) ∧ v k ≠ 0 ∧ SP g F v ∧ SP g (fun w => (∃ y, 0 ≤ y ∧ y < k ∧ C y y ≠ 0 ∧ w = C y) ∨ w = v) (C k) ∧ NB g (bet k * 6561 ^ (k - 1 - x).toNat) v ∧ (PRIM g v ∨ NB g 3 v) ∧ ∀ y, x < y → y < k → C y y ≠ 0 → v y = 0
theorem CL_0 {g : Int} {F : VC → Prop} {C : Int → VC} (h : CIr g F C) : CL g F C 0 := ⟨h.1, h.2.1, h.2.2.1, fun x x0 x1 hx _ => h.2.2.2.1 x x0 x1 hx, h.2.2.2.2, fun x x0 _ _ q => by omega⟩
theorem CL_skip {g : Int} {F : VC → Prop} {C : Int → VC} {k : Int} (h : CL g F C k) (hk : C k k = 0) : CL g F C (k + 1) := by
  obtain ⟨a, b, c, d, e, f⟩ := h
  refine ⟨a, b, c, fun x x0 x1 hx q => d x x0 x1 hx (by omega), e, fun x x0 x1 hx q => f x x0 x1 hx ?_⟩
  have : x ≠ k := fun z => hx (z ▸ hk)
  omega
theorem CL_p0 {g : Int} {F : VC → Prop} {C : Int → VC} {k : Int} (hg : 1 ≤ g) (h : CL g F C k) : C 0 0 = 0 := piv0 hg (L := SP g F) (fun v hv => hv _ (SUB_sm g) fun f hf => (h.2.2.2.2.1 f hf).1) h.1 h.2.1
theorem CK_0 {g : Int} {F : VC → Prop} {C : Int → VC} {k : Int} {v : VC} (h : CL g F C k) (k0 : 0 ≤ k ∧ k < g) (hk : C k k ≠ 0) (e : ∀ x, 0 ≤ x → x < g → v x = C k x) : CK g F C k (k - 1) v := by
  obtain ⟨a, b, c, d, e', f⟩ := h
  have d1 := d k k0.1 k0.2 hk (Int.le_refl _)
  refine ⟨fun y y0 y1 => by rw [e y (by omega) y1]; exact a k k0.1 k0.2 hk y y0 y1, by rw [e k k0.1 k0.2]; exact hk, SP_e (b k k0.1 k0.2 hk) (fun x x0 x1 => (e x x0 x1).symm), SP_e (SP_in (Or.inr rfl)) e, ?_, ?_, fun y y0 y1 => by omega⟩
  · rw [show (k - 1 - (k - 1)).toNat = 0 by omega, Int.pow_zero, Int.mul_one]
    exact NB_c d1.1 (fun x x0 x1 => (e x x0 x1).symm)
  · rcases d1.2 with h | h
    · exact Or.inl (h.c fun x x0 x1 => (e x x0 x1).symm)
    · exact Or.inr (NB_c h fun x x0 x1 => (e x x0 x1).symm)
theorem CK_skip {g : Int} {F : VC → Prop} {C : Int → VC} {k x : Int} {v : VC} (h : CK g F C k x v) (hx : C x x = 0 ∨ v x = 0) (h0 : x < k) : CK g F C k (x - 1) v := by
  obtain ⟨a, b, c, d, e, f, z⟩ := h
  refine ⟨a, b, c, d, NB_mono e (Int.mul_le_mul_of_nonneg_left (pw_mono (by decide) (by omega)) (by have := bet_3 k; omega)), f, fun y y0 y1 hy => ?_⟩
  by_cases q : y = x
  · subst q; exact hx.elim (fun q => absurd q hy) id
  · exact z y (by omega) y1 hy
theorem CK_el {g : Int} {F : VC → Prop} {C : Int → VC} {k x : Int} {v v' : VC} (hC : CL g F C k) (h : CK g F C k x v) (x0 : 0 ≤ x ∧ x < k ∧ k < g) (hp : C x x ≠ 0) (hn : NRM g (elm v (C x) x) v') : CK g F C k (x - 1) v' := by
  obtain ⟨a, b, c, d, e, f, z⟩ := h
  obtain ⟨ca, cb, cc, cd, ce, cf⟩ := hC
  obtain ⟨dd, hd, ed⟩ := hn.e
  have cx := cf x x0.1 (by omega) hp x0.2.1
  have hk : elm v (C x) x k = v k * C x x := by unfold elm; rw [ca x x0.1 (by omega) hp k x0.2.1 x0.2.2]; simp
  have hk2 : v' k ≠ 0 := fun q => by
    have := ed k (by omega) x0.2.2
    rw [hk, q, Int.mul_zero] at this
    exact Int.mul_ne_zero b hp this
  refine ⟨fun y y0 y1 => ?_, hk2, (SP_sub _ _).2.2.1 dd v' (by omega) (SP_e ((SP_sub g F).el c (cb x x0.1 (by omega) hp) x) ed), SP_le (fun u hu => ?_) d, ?_, Or.inl (hn.p (by omega) x0.2.2 hk2), fun y y0 y1 hy => ?_⟩
  · have := ed y (by omega) y1
    rw [show elm v (C x) x y = 0 by unfold elm; rw [a y y0 y1, ca x x0.1 (by omega) hp y (by omega) y1]; simp] at this
    exact (Int.mul_eq_zero.mp this.symm).elim (fun q => by omega) id
  · rcases hu with hu | hu
    · exact SP_in (Or.inl hu)
    · subst hu
      refine (SP_sub _ _).2.2.1 (C x x) u hp (SP_e ((SP_sub _ _).2.1 dd v' (u x) (C x) (SP_in (Or.inr rfl)) (SP_in (Or.inl ⟨x, x0.1, x0.2.1, hp, rfl⟩))) fun z z0 z1 => ?_)
      show dd * v' z + u x * C x z = C x x * u z
      rw [← ed z z0 z1]; unfold elm
      rw [Int.mul_comm (u x), Int.mul_comm (u z)]; omega
  · refine hn.nb ?_
    have h9 := NB_el e cx.1 x0.1 (by omega)
    rw [Int.mul_assoc, ← Int.pow_succ, show (k - 1 - x).toNat.succ = (k - 1 - (x - 1)).toNat by omega] at h9
    exact h9
  · have hz : elm v (C x) x y = 0 := by
      by_cases q : y = x
      · rw [q]; exact elm_s ..
      · unfold elm
        rw [z y (by omega) y1 hy, ca x x0.1 (by omega) hp y (by omega) (by omega)]; simp
    have := ed y (by omega) (by omega)
    rw [hz] at this
    exact (Int.mul_eq_zero.mp this.symm).elim (fun q => by omega) id
theorem CL_red {g : Int} {F : VC → Prop} {C : Int → VC} {k : Int} (hg : 0 ≤ g) (h : CL g F C k) : RED g (SP g F) C := RED_of hg h.1 fun _ hv => SP_le h.2.2.1 hv
theorem CL_S {g : Int} {F : VC → Prop} {C C' : Int → VC} {k : Int} {v : VC} (hg : 2 ≤ g ∧ g ≤ 6) (hC : CL g F C k) (h : CK g F C k (-1) v) (k0 : 0 ≤ k ∧ k < g) (hp : C k k ≠ 0) (e1 : ∀ z, 0 ≤ z → z < g → C' k z = v z) (e2 : ∀ y, 0 ≤ y → y < g → y ≠ k → ∀ z, 0 ≤ z → z < g → C' y z = C y z) : CL g F C' (k + 1) := by
  have hred := CL_red (by omega) hC
  obtain ⟨a, b, c, d, e, f, z⟩ := h
  obtain ⟨ca, cb, cc, cd, ce, cf⟩ := hC
  have hz : ∀ y, 0 ≤ y → y < g → C y y ≠ 0 → y ≠ k → v y = 0 := fun y y0 y1 hy q => by
    by_cases l : y < k
    · exact z y (by omega) l hy
    · exact a y (by omega) y1
  have hnb : NB g 6561 v := by
    rcases f with f | f
    · exact NB_K hg ce ca cb hred ⟨k0.1, k0.2, hp⟩ c b hz a f
    · exact NB_mono f (by decide)
  have hk' : C' k k ≠ 0 := by rw [e1 k k0.1 k0.2]; exact b
  have pv : ∀ y, 0 ≤ y → y < g → (C' y y ≠ 0 ↔ C y y ≠ 0) := fun y y0 y1 => by
    by_cases q : y = k
    · subst q; exact ⟨fun _ => hp, fun _ => hk'⟩
    · rw [e2 y y0 y1 q y y0 y1]
  refine ⟨fun y y0 y1 hy w w0 w1 => ?_, fun y y0 y1 hy => ?_, fun u hu => SP_le (fun w hw => ?_) (cc u hu), fun y y0 y1 hy q => ?_, ce, fun y y0 y1 hy q => ?_⟩
  · by_cases q : y = k
    · rw [q] at w0 ⊢; rw [e1 w (by omega) w1]; exact a w w0 w1
    · rw [e2 y y0 y1 q w (by omega) w1]; exact ca y y0 y1 ((pv y y0 y1).mp hy) w w0 w1
  · by_cases q : y = k
    · rw [q]; exact SP_e c (fun z z0 z1 => (e1 z z0 z1).symm)
    · exact SP_e (cb y y0 y1 ((pv y y0 y1).mp hy)) (fun z z0 z1 => (e2 y y0 y1 q z z0 z1).symm)
  · obtain ⟨y, y0, y1, y2, y3⟩ := hw
    subst y3
    by_cases q : y = k
    · subst q
      refine SP_le (fun w hw => ?_) d
      rcases hw with ⟨x, x0, x1, x2, x3⟩ | hw
      · subst x3
        exact SP_e (SP_in ⟨x, x0, by omega, (pv x x0 (by omega)).mpr x2, rfl⟩) (e2 x x0 (by omega) (by omega))
      · subst hw
        exact SP_e (SP_in ⟨y, y0, y1, hk', rfl⟩) e1
    · exact SP_e (SP_in ⟨y, y0, y1, (pv y y0 y1).mpr y2, rfl⟩) (e2 y y0 y1 q)
  · have q9 : y ≠ k := by omega
    have h9 := cd y y0 y1 ((pv y y0 y1).mp hy) (by omega)
    refine ⟨NB_c h9.1 (fun z z0 z1 => (e2 y y0 y1 q9 z z0 z1).symm), ?_⟩
    rcases h9.2 with h | h
    · exact Or.inl (h.c fun z z0 z1 => (e2 y y0 y1 q9 z z0 z1).symm)
    · exact Or.inr (NB_c h fun z z0 z1 => (e2 y y0 y1 q9 z z0 z1).symm)
  · by_cases q9 : y = k
    · subst q9
      exact ⟨NB_c hnb (fun z z0 z1 => (e1 z z0 z1).symm), fun w w0 w1 hw => by
        rw [e1 w w0 (by omega)]; exact z w (by omega) w1 ((pv w w0 (by omega)).mp hw)⟩
    · have h9 := cf y y0 y1 ((pv y y0 y1).mp hy) (by omega)
      exact ⟨NB_c h9.1 (fun z z0 z1 => (e2 y y0 y1 q9 z z0 z1).symm), fun w w0 w1 hw => by
        rw [e2 y y0 y1 q9 w w0 (by omega)]; exact h9.2 w w0 w1 ((pv w w0 (by omega)).mp hw)⟩
