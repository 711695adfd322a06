/-- rows that are solved for one another, each in lowest terms -/
def GJ (g : Int) (F : VC → Prop) (C : Int → VC) : Prop := TRI g C ∧ (∀ x, 0 ≤ x → x < g → C x x ≠ 0 → SP g F (C x)) ∧ (∀ f, F f → SP g (ROW g C) f) ∧ (∀ x, 0 ≤ x → x < g → C x x ≠ 0 → PRIM g (C x)) ∧ (∀ x y, 0 ≤ x → x < g → 0 ≤ y → y < g → C x x ≠ 0 → C y y ≠ 0 → x ≠ y → C x y = 0) ∧ ∀ f, F f → NB g 3 f
theorem GJ.red {g : Int} {F : VC → Prop} {C : Int → VC} (hg : 0 ≤ g) (h : GJ g F C) : RED g (SP g F) C := RED_of hg h.1 fun _ hv => SP_le h.2.2.1 hv
theorem GJ.nb {g : Int} {F : VC → Prop} {C : Int → VC} (hg : 2 ≤ g ∧ g ≤ 6) (h : GJ g F C) {x : Int} (x0 : 0 ≤ x) (x1 : x < g) (hx : C x x ≠ 0) : NB g 6561 (C x) :=
  NB_K hg h.2.2.2.2.2 h.1 h.2.1 (h.red (by omega)) ⟨x0, x1, hx⟩ (h.2.1 x x0 x1 hx) hx (fun y y0 y1 hy q => h.2.2.2.2.1 x y x0 x1 y0 y1 hx hy (fun e => q e.symm)) (h.1 x x0 x1 hx) (h.2.2.2.1 x x0 x1 hx)
theorem GJ.cl {g : Int} {F : VC → Prop} {C : Int → VC} (hg : 2 ≤ g ∧ g ≤ 6) (h : GJ g F C) : CL g F C g :=
  ⟨h.1, h.2.1, h.2.2.1, fun x x0 x1 _ q => by omega, h.2.2.2.2.2, fun x x0 x1 hx _ => ⟨h.nb hg x0 x1 hx, fun y y0 y1 hy => h.2.2.2.2.1 x y x0 x1 y0 (by omega) hx hy (by omega)⟩⟩
theorem GJ.p0 {g : Int} {F : VC → Prop} {C : Int → VC} (hg : 2 ≤ g ∧ g ≤ 6) (h : GJ g F C) : C 0 0 = 0 := piv0 (by omega) (L := SP g F) (fun v hv => hv _ (SUB_sm g) fun f hf => (h.2.2.2.2.2 f hf).1) h.1 h.2.1
theorem ab_1 {x : Int} (h : x ∣ 1) : ab x = 1 := by
  have h1 := Int.le_of_dvd (by decide) h
  have h2 := Int.le_of_dvd (by decide) (Int.neg_dvd.mpr h)
  have : x ≠ 0 := fun q => by rw [q] at h; exact absurd (Int.zero_dvd.mp h) (by decide)
  rcases ab_d x with ⟨a, b⟩ | ⟨a, b⟩ <;> omega
theorem sm_two {v : VC} {a b : Int} (hab : a ≠ b) : ∀ n : Nat, (∀ y : Int, 0 ≤ y → y < n → y ≠ a → y ≠ b → v y = 0) → sm v n = (if 0 ≤ a ∧ a < n then v a else 0) + (if 0 ≤ b ∧ b < n then v b else 0)
  | 0, _ => by rw [if_neg (by omega), if_neg (by omega)]; rfl
  | n + 1, h => by
    unfold sm
    rw [sm_two hab n (fun y y0 y1 => h y y0 (by omega))]
    by_cases ea : a = n
    · rw [if_neg (by omega), if_pos (show 0 ≤ a ∧ a < ((n + 1 : Nat) : Int) by omega), ← ea]
      by_cases q : 0 ≤ b ∧ b < a
      · rw [if_pos q, if_pos (by omega)]; omega
      · rw [if_neg q, if_neg (by omega)]; omega
    · by_cases eb : b = n
      · rw [if_neg (show ¬ (0 ≤ b ∧ b < (n : Int)) by omega), if_pos (show 0 ≤ b ∧ b < ((n + 1 : Nat) : Int) by omega), ← eb]
        by_cases q : 0 ≤ a ∧ a < b
        · rw [if_pos q, if_pos (by omega)]; omega
        · rw [if_neg q, if_neg (by omega)]; omega
      · rw [h n (by omega) (by omega) (fun q => ea q.symm) (fun q => eb q.symm)]
        have e1 : (0 ≤ a ∧ a < (n : Int)) = (0 ≤ a ∧ a < ((n + 1 : Nat) : Int)) := propext (by omega)
        have e2 : (0 ≤ b ∧ b < (n : Int)) = (0 ≤ b ∧ b < ((n + 1 : Nat) : Int)) := propext (by omega)
        simp only [e1, e2, Int.add_zero]
theorem GJ.one {g : Int} {F : VC → Prop} {C : Int → VC} (hg : 2 ≤ g ∧ g ≤ 6) (h : GJ g F C) (hA : ∀ x, 1 ≤ x → x < g → C x x ≠ 0) {x : Int} (x0 : 0 ≤ x) (x1 : x < g) (hx : C x x ≠ 0) : NB g 1 (C x) := by
  have hx1 : 1 ≤ x := by
    by_cases e : x = 0
    · rw [e] at hx; exact absurd (h.p0 hg) hx
    · omega
  have hz : ∀ y, 0 ≤ y → y < g → y ≠ 0 → y ≠ x → C x y = 0 := fun y y0 y1 h0 hy => h.2.2.2.2.1 x y x0 x1 y0 y1 hx (hA y (by omega) y1) (fun e => hy e.symm)
  have hs : sm (C x) g.toNat = 0 := (h.2.1 x x0 x1 hx) _ (SUB_sm g) fun f hf => (h.2.2.2.2.2 f hf).1
  have h2 := sm_two (v := C x) (a := 0) (b := x) (by omega) g.toNat (fun y y0 y1 => hz y y0 (by omega))
  rw [hs, if_pos (by omega), if_pos (by omega)] at h2
  have hd : C x x ∣ 1 := h.2.2.2.1 x x0 x1 hx (C x x) 1 fun y y0 y1 => by
    rw [Int.one_mul]
    by_cases e0 : y = 0
    · rw [e0, show C x 0 = -(C x x) by omega]; exact Int.dvd_neg.mpr (Int.dvd_refl _)
    · by_cases e1 : y = x
      · rw [e1]; exact Int.dvd_refl _
      · rw [hz y y0 y1 e0 e1]; exact Int.dvd_zero _
  have ha := ab_1 hd
  refine ⟨hs, ?_⟩
  have h3 := sm_two (v := fun y => ab (C x y)) (a := 0) (b := x) (by omega) g.toNat (fun y y0 y1 e0 e1 => by show ab (C x y) = 0; rw [hz y y0 (by omega) e0 e1]; rfl)
  rw [h3, if_pos (by omega), if_pos (by omega)]
  show ab (C x 0) + ab (C x x) ≤ _
  rw [show C x 0 = -(C x x) by omega]
  rcases ab_d (C x x) with ⟨a, b⟩ | ⟨a, b⟩ <;> rcases ab_d (-(C x x)) with ⟨c, d⟩ | ⟨c, d⟩ <;> omega
/-- how large an equation may be before a row is put in -/
def BND (g : Int) (C : Int → VC) (bd : Int → Int) (b : Int) : Prop := (∀ x, 0 ≤ x → x < g → C x x ≠ 0 → NB g b (C x)) ∧ 1 ≤ b ∧ b ≤ 6561 ∧ 3 ≤ bd (g - 1) ∧ (∀ k, 0 ≤ k → k < g → (C k k ≠ 0 → bd k * b ≤ bd (k - 1)) ∧ bd k ≤ bd (k - 1)) ∧ ∀ k, -1 ≤ k → k < g → 0 ≤ bd k ∧ bd k ≤ 6000000000000000
theorem BND_of {g : Int} {F : VC → Prop} {C : Int → VC} (hg : 2 ≤ g ∧ g ≤ 6) (h : GJ g F C) : ∃ bd b, BND g C bd b := by
  have p0 := h.p0 hg
  by_cases hA : ∀ x, 1 ≤ x → x < g → C x x ≠ 0
  · exact ⟨fun _ => 3, 1, fun x x0 x1 hx => h.one hg hA x0 x1 hx, by decide, by decide, (by show (3 : Int) ≤ 3; decide), fun k _ _ => ⟨fun _ => (by show (3 : Int) * 1 ≤ 3; decide), (by show (3 : Int) ≤ 3; decide)⟩, fun k _ _ => (by show (0 : Int) ≤ 3 ∧ (3 : Int) ≤ 6000000000000000; decide)⟩
  · obtain ⟨z, z1, z2, z3⟩ : ∃ z, 1 ≤ z ∧ z < g ∧ C z z = 0 := Classical.byContradiction fun q => hA fun x x1 x2 hx => q ⟨x, x1, x2, hx⟩
    let e : Int → Nat := fun k => (g - 1 - (if k < 0 then 0 else k) - (if k < z then 1 else 0)).toNat
    have eS : ∀ k, 1 ≤ k → k < g → k ≠ z → e (k - 1) = e k + 1 := fun k k0 k1 kz => by
      show (g - 1 - (if k - 1 < 0 then 0 else k - 1) - (if k - 1 < z then 1 else 0)).toNat = (g - 1 - (if k < 0 then 0 else k) - (if k < z then 1 else 0)).toNat + 1
      rw [if_neg (by omega), if_neg (show ¬ k < 0 by omega)]
      by_cases q : k < z
      · rw [if_pos q, if_pos (by omega)]; omega
      · rw [if_neg q, if_neg (by omega)]; omega
    have eM : ∀ k, 0 ≤ k → k < g → e k ≤ e (k - 1) := fun k k0 k1 => by
      show (g - 1 - (if k < 0 then 0 else k) - (if k < z then 1 else 0)).toNat ≤ (g - 1 - (if k - 1 < 0 then 0 else k - 1) - (if k - 1 < z then 1 else 0)).toNat
      split <;> split <;> split <;> split <;> omega
    have eB : ∀ k, -1 ≤ k → k < g → e k ≤ 4 := fun k k0 k1 => by
      show (g - 1 - (if k < 0 then 0 else k) - (if k < z then 1 else 0)).toNat ≤ 4
      split <;> split <;> omega
    refine ⟨fun k => 3 * 6561 ^ e k, 6561, fun x x0 x1 hx => h.nb hg x0 x1 hx, by decide, by decide, ?_, fun k k0 k1 => ⟨fun hk => ?_, ?_⟩, fun k k0 k1 => ?_⟩
    · have : (1 : Int) ≤ 6561 ^ e (g - 1) := Int.pow_pos (by decide)
      show 3 ≤ 3 * 6561 ^ e (g - 1)
      omega
    · have k1' : 1 ≤ k := by
        by_cases q : k = 0
        · rw [q] at hk; exact absurd p0 hk
        · omega
      have kz : k ≠ z := fun q => hk (by rw [q]; exact z3)
      show 3 * 6561 ^ e k * 6561 ≤ 3 * 6561 ^ e (k - 1)
      rw [eS k k1' k1 kz, Int.pow_succ]; omega
    · show 3 * 6561 ^ e k ≤ 3 * 6561 ^ e (k - 1)
      have := pw_mono (b := 6561) (by decide) (eM k k0 k1)
      omega
    · show 0 ≤ 3 * 6561 ^ e k ∧ 3 * 6561 ^ e k ≤ 6000000000000000
      have h1 : (1 : Int) ≤ 6561 ^ e k := Int.pow_pos (by decide)
      have h2 := pw_mono (b := 6561) (by decide) (eB k k0 k1)
      have h3 : (6561 : Int) ^ 4 = 1853020188851841 := by decide +kernel
      omega
/-- an equation in work: what is left of it when the rows from above k are put in -/
def CEM (g : Int) (F : VC → Prop) (f : VC) (C : Int → VC) (B k : Int) (v : VC) : Prop := (∀ y, k < y → y < g → C y y ≠ 0 → v y = 0) ∧ SP g (fun u => F u ∨ u = f) v ∧ SP g (fun w => ROW g C w ∨ w = v) f ∧ NB g B v
theorem CEM_0 {g B : Int} {F : VC → Prop} {f v : VC} {C : Int → VC} (hf : NB g 3 f) (hB : 3 ≤ B) (e : ∀ x, 0 ≤ x → x < g → v x = f x) : CEM g F f C B (g - 1) v :=
  ⟨fun y h0 h1 => by omega, SP_e (SP_in (Or.inr rfl)) (fun x h0 h1 => (e x h0 h1).symm), SP_e (SP_in (Or.inr rfl)) e, NB_mono (NB_c hf (fun x h0 h1 => (e x h0 h1).symm)) hB⟩
theorem CEM_skip {g B B' : Int} {F : VC → Prop} {f v : VC} {C : Int → VC} {k : Int} (h : CEM g F f C B k v) (hk : C k k = 0 ∨ v k = 0) (hB : B ≤ B') : CEM g F f C B' (k - 1) v := by
  obtain ⟨a, b, c, d⟩ := h
  refine ⟨fun y y0 y1 hy => ?_, b, c, NB_mono d hB⟩
  by_cases e : y = k
  · rcases hk with hk | hk
    · rw [e] at hy; exact absurd hk hy
    · rw [e]; exact hk
  · exact a y (by omega) y1 hy
theorem CEM_el {g B b B' : Int} {F : VC → Prop} {f v v' : VC} {C : Int → VC} {k : Int} (hC : GJ g F C) (h : CEM g F f C B k v) (k0 : 0 ≤ k ∧ k < g) (hp : C k k ≠ 0) (hb : NB g b (C k)) (hB : B * b ≤ B') (hn : ∀ x, 0 ≤ x → x < g → v' x = elm v (C k) k x) : CEM g F f C B' (k - 1) v' := by
  obtain ⟨a1, b1, c1, d1⟩ := h
  obtain ⟨cT, cS, cF, cP, cR, cB⟩ := hC
  have hU : SP g (fun u => F u ∨ u = f) (C k) := SP_le (fun u hu => SP_in (Or.inl hu)) (cS k k0.1 k0.2 hp)
  have hE : SP g (fun u => F u ∨ u = f) (elm v (C k) k) := (SP_sub _ _).el b1 hU k
  refine ⟨fun y h0 h1 hy => ?_, SP_e hE (fun x x0 x1 => (hn x x0 x1).symm), ?_, NB_mono (NB_c (NB_el d1 hb k0.1 k0.2) (fun x x0 x1 => (hn x x0 x1).symm)) hB⟩
  · rw [hn y (by omega) h1]
    by_cases q : y = k
    · rw [q]; exact elm_s ..
    · unfold elm; rw [a1 y (by omega) h1 hy, cR k y k0.1 k0.2 (by omega) h1 hp hy (fun e => q e.symm)]; simp
  · refine SP_le (fun u hu => ?_) c1
    rcases hu with hu | hu
    · exact SP_in (Or.inl hu)
    · subst hu
      refine (SP_sub _ _).2.2.1 (C k k) u hp (SP_e ((SP_sub _ _).2.1 1 v' (u k) (C k) (SP_in (Or.inr rfl)) (SP_in (Or.inl ⟨k, k0.1, k0.2, hp, rfl⟩))) fun z z0 z1 => ?_)
      show 1 * v' z + u k * C k z = C k k * u z
      rw [hn z z0 z1, Int.one_mul]; unfold elm
      rw [Int.mul_comm (u k), Int.mul_comm (u z)]; omega
theorem CEM_nrm {g B : Int} {F : VC → Prop} {f v v' : VC} {C : Int → VC} (h : CEM g F f C B (-1) v) (hn : NRM g v v') : CEM g F f C B (-1) v' := by
  obtain ⟨a, b, c, d⟩ := h
  obtain ⟨dd, hd, ed⟩ := hn.e
  refine ⟨fun y y0 y1 hy => ?_, (SP_sub _ _).2.2.1 dd v' (by omega) (SP_e b ed), ?_, hn.nb d⟩
  · have h1 := ed y (by omega) y1
    rw [a y y0 y1 hy] at h1
    exact (Int.mul_eq_zero.mp h1.symm).elim (fun q => by omega) id
  · refine SP_le (fun u hu => ?_) c
    rcases hu with hu | hu
    · exact SP_in (Or.inl hu)
    · subst hu
      exact SP_e ((SP_sub _ _).2.1 dd v' 0 v' (SP_in (Or.inr rfl)) (SP_in (Or.inr rfl))) fun z z0 z1 => by
        show dd * v' z + 0 * v' z = u z
        rw [ed z z0 z1]; omega
theorem GJ_end {g B : Int} {F : VC → Prop} {f v : VC} {C : Int → VC} (hC : GJ g F C) (hf : NB g 3 f) (h : CEM g F f C B (-1) v) (hz : ∀ x, 0 ≤ x → x < g → v x = 0) : GJ g (fun u => F u ∨ u = f) C := by
  obtain ⟨a, b, c, d⟩ := h
  obtain ⟨cT, cS, cF, cP, cR, cB⟩ := hC
  refine ⟨cT, fun x x0 x1 hx => SP_le (fun u hu => SP_in (Or.inl hu)) (cS x x0 x1 hx), fun u hu => ?_, cP, cR, fun u hu => hu.elim (cB u) (fun q => q ▸ hf)⟩
  rcases hu with hu | hu
  · exact cF u hu
  · subst hu
    refine SP_le (fun w hw => ?_) c
    rcases hw with hw | hw
    · exact SP_in hw
    · subst hw
      exact SP_e (SP_sub g (ROW g C)).1 (fun x x0 x1 => (hz x x0 x1).symm)
/-- the rows when the new one, at place l, is put into those below k -/
def GJP (g : Int) (C : Int → VC) (v : VC) (l k : Int) (C' : Int → VC) : Prop := (∀ x, 0 ≤ x → x < g → C' l x = v x) ∧ ∀ j, 0 ≤ j → j < g → j ≠ l → (C j j = 0 → C' j j = 0) ∧ (C j j ≠ 0 → (k ≤ j → ∀ x, 0 ≤ x → x < g → C' j x = C j x) ∧ (j < k → ∃ w, NRM g w (C' j) ∧ ((∀ x, 0 ≤ x → x < g → w x = elm (C j) v l x) ∨ (C j l = 0 ∧ ∀ x, 0 ≤ x → x < g → w x = C j x))))
theorem GJ_new {g B l : Int} {F : VC → Prop} {f v : VC} {C C' : Int → VC} (hC : GJ g F C) (hf : NB g 3 f) (h : CEM g F f C B (-1) v) (l0 : 0 ≤ l ∧ l < g) (hl : v l ≠ 0) (ht : ∀ y, l < y → y < g → v y = 0) (hp : PRIM g v) (hP : GJP g C v l g C') : GJ g (fun u => F u ∨ u = f) C' := by
  obtain ⟨a, b, c, d⟩ := h
  obtain ⟨cT, cS, cF, cP, cR, cB⟩ := hC
  obtain ⟨e1, e2⟩ := hP
  have lz : C l l = 0 := Classical.byContradiction fun q => hl (a l (by omega) l0.2 q)
  have hl' : C' l l ≠ 0 := by rw [e1 l l0.1 l0.2]; exact hl
  -- what a row has become
  have key : ∀ j, 0 ≤ j → j < g → j ≠ l → C j j ≠ 0 → ∃ dd w, 1 ≤ dd ∧ (∀ x, 0 ≤ x → x < g → w x = dd * C' j x) ∧ NRM g w (C' j) ∧ ∃ m, m ≠ 0 ∧ ∀ x, 0 ≤ x → x < g → w x = m * C j x + (-(C j l)) * v x := fun j j0 j1 jl hj => by
    obtain ⟨w, hn, hw⟩ := ((e2 j j0 j1 jl).2 hj).2 j1
    obtain ⟨dd, hd, ed⟩ := hn.e
    refine ⟨dd, w, hd, ed, hn, ?_⟩
    rcases hw with hw | ⟨hw0, hw⟩
    · refine ⟨v l, hl, fun x x0 x1 => ?_⟩
      rw [hw x x0 x1]; unfold elm
      rw [Int.neg_mul, Int.mul_comm (v l), Int.mul_comm (C j l)]; omega
    · exact ⟨1, by decide, fun x x0 x1 => by rw [hw x x0 x1, hw0]; omega⟩
  have vp : ∀ y, 0 ≤ y → y < g → C y y ≠ 0 → v y = 0 := fun y y0 y1 hy => a y (by omega) y1 hy
  have val : ∀ j, 0 ≤ j → j < g → j ≠ l → C j j ≠ 0 → ∀ x, 0 ≤ x → x < g → (C j x = 0 → C j l = 0 ∨ v x = 0 → C' j x = 0) := fun j j0 j1 jl hj x x0 x1 h1 h2 => by
    obtain ⟨dd, w, hd, ed, -, m, hm, ew⟩ := key j j0 j1 jl hj
    have := ed x x0 x1
    rw [ew x x0 x1, h1] at this
    have z : -(C j l) * v x = 0 := by rcases h2 with q | q <;> rw [q] <;> simp
    rw [z, Int.mul_zero, Int.add_zero] at this
    rcases Int.mul_eq_zero.mp this.symm with q | q
    · omega
    · exact q
  have pv : ∀ j, 0 ≤ j → j < g → j ≠ l → (C' j j ≠ 0 ↔ C j j ≠ 0) := fun j j0 j1 jl => by
    refine ⟨fun q r => q ((e2 j j0 j1 jl).1 r), fun hj q => ?_⟩
    obtain ⟨dd, w, hd, ed, -, m, hm, ew⟩ := key j j0 j1 jl hj
    have := ed j j0 j1
    rw [ew j j0 j1, q, vp j j0 j1 hj, Int.mul_zero, Int.mul_zero, Int.add_zero] at this
    rcases Int.mul_eq_zero.mp this with r | r
    · exact hm r
    · exact hj r
  have lj : ∀ j, 0 ≤ j → j < g → j ≠ l → C j j ≠ 0 → C' j l = 0 := fun j j0 j1 jl hj => by
    obtain ⟨w, hn, hw⟩ := ((e2 j j0 j1 jl).2 hj).2 j1
    obtain ⟨dd, hd, ed⟩ := hn.e
    have hz : w l = 0 := by
      rcases hw with hw | ⟨hw0, hw⟩
      · rw [hw l l0.1 l0.2]; exact elm_s ..
      · rw [hw l l0.1 l0.2]; exact hw0
    have := ed l l0.1 l0.2
    rw [hz] at this
    exact (Int.mul_eq_zero.mp this.symm).elim (fun q => by omega) id
  have inF : ∀ u, SP g F u → SP g (fun u => F u ∨ u = f) u := fun u hu => SP_le (fun u hu => SP_in (Or.inl hu)) hu
  have rowl : SP g (ROW g C') v := SP_e (SP_in ⟨l, l0.1, l0.2, hl', rfl⟩) e1
  have rowj : ∀ j, 0 ≤ j → j < g → C j j ≠ 0 → SP g (ROW g C') (C j) := fun j j0 j1 hj => by
    have jl : j ≠ l := fun q => by rw [q] at hj; exact hj lz
    obtain ⟨dd, w, hd, ed, -, m, hm, ew⟩ := key j j0 j1 jl hj
    refine (SP_sub _ _).2.2.1 m (C j) hm (SP_e ((SP_sub _ _).2.1 dd (C' j) (C j l) v (SP_in ⟨j, j0, j1, (pv j j0 j1 jl).mpr hj, rfl⟩) rowl) fun x x0 x1 => ?_)
    show dd * C' j x + C j l * v x = m * C j x
    rw [← ed x x0 x1, ew x x0 x1, Int.neg_mul]; omega
  refine ⟨fun x x0 x1 hx y y0 y1 => ?_, fun x x0 x1 hx => ?_, fun u hu => ?_, fun x x0 x1 hx => ?_, fun x y x0 x1 y0 y1 hx hy xy => ?_, fun u hu => hu.elim (cB u) (fun q => q ▸ hf)⟩
  · by_cases q : x = l
    · rw [q, e1 y (by omega) y1]; exact ht y (by omega) y1
    · have hj := (pv x x0 x1 q).mp hx
      refine val x x0 x1 q hj y (by omega) y1 (cT x x0 x1 hj y y0 y1) ?_
      by_cases r : x < l
      · exact Or.inl (cT x x0 x1 hj l r l0.2)
      · exact Or.inr (ht y (by omega) y1)
  · by_cases q : x = l
    · rw [q]; exact SP_e b (fun z z0 z1 => (e1 z z0 z1).symm)
    · have hj := (pv x x0 x1 q).mp hx
      obtain ⟨dd, w, hd, ed, -, m, hm, ew⟩ := key x x0 x1 q hj
      refine (SP_sub _ _).2.2.1 dd (C' x) (by omega) (SP_e ((SP_sub _ _).2.1 m (C x) (-(C x l)) v (inF _ (cS x x0 x1 hj)) b) fun z z0 z1 => ?_)
      show m * C x z + -(C x l) * v z = dd * C' x z
      rw [← ed z z0 z1, ew z z0 z1]
  · rcases hu with hu | hu
    · exact SP_le (fun w ⟨j, j0, j1, hj, e⟩ => e ▸ rowj j j0 j1 hj) (cF u hu)
    · subst hu
      refine SP_le (fun w hw => ?_) c
      rcases hw with ⟨j, j0, j1, hj, e⟩ | hw
      · subst e; exact rowj j j0 j1 hj
      · subst hw; exact rowl
  · by_cases q : x = l
    · rw [q]; exact hp.c (fun z z0 z1 => (e1 z z0 z1).symm)
    · have hj := (pv x x0 x1 q).mp hx
      obtain ⟨dd, w, hd, ed, hn, -⟩ := key x x0 x1 q hj
      exact hn.p x0 x1 hx
  · by_cases q : x = l
    · rw [q, e1 y y0 y1]
      exact vp y y0 y1 ((pv y y0 y1 (fun r => xy (by rw [q, r]))).mp hy)
    · have hj := (pv x x0 x1 q).mp hx
      by_cases r : y = l
      · rw [r]; exact lj x x0 x1 q hj
      · have hj2 := (pv y y0 y1 r).mp hy
        exact val x x0 x1 q hj y y0 y1 (cR x y x0 x1 y0 y1 hj hj2 xy) (Or.inr (vp y y0 y1 hj2))
/-- the new row is small -/
theorem CEM_nb {g B l : Int} {F : VC → Prop} {f v : VC} {C : Int → VC} (hg : 2 ≤ g ∧ g ≤ 6) (hC : GJ g F C) (hf : NB g 3 f) (h : CEM g F f C B (-1) v) (l0 : 0 ≤ l ∧ l < g) (hl : v l ≠ 0) (ht : ∀ y, l < y → y < g → v y = 0) (hp : PRIM g v) : NB g 6561 v := by
  have hN : GJP g C v l g (fun j => if j = l then v else if C j j = 0 then fun _ => 0 else fun x => if 0 < gF (elm (C j) v l) g.toNat then (elm (C j) v l x).tdiv (gF (elm (C j) v l) g.toNat) else 0) := by
    refine ⟨fun x x0 x1 => by simp, fun j j0 j1 jl => ⟨fun q => ?_, fun q => ⟨fun r => by omega, fun _ => ⟨elm (C j) v l, ?_, Or.inl fun x x0 x1 => rfl⟩⟩⟩⟩
    · simp only [if_neg jl, if_pos q]
    · simp only [if_neg jl, if_neg q]
      exact NRM_of fun x x0 x1 => rfl
  have := (GJ_new hC hf h l0 hl ht hp hN).nb hg l0.1 l0.2 (by simpa using hl)
  simpa using this
theorem LEADP {g : Int} {F : VC → Prop} {C : Int → VC} (hg : 0 ≤ g) (hC : CL g F C g) {v : VC} {x : Int} (x0 : 0 ≤ x) (x1 : x < g) (hv : SP g F v) (hx : v x ≠ 0) (ht : ∀ y, x < y → y < g → v y = 0) : C x x ≠ 0 := fun hz => by
  have hR := CL_red hg hC
  obtain ⟨cT, cS, -⟩ := hC
  have key : ∀ n : Nat, (n : Int) ≤ g → SP g F (rhoN g C n v) ∧ rhoN g C n v x ≠ 0 ∧ (∀ y, x < y → y < g → rhoN g C n v y = 0) ∧ ∀ y, g - 1 - n < y → y < g → C y y ≠ 0 → 0 ≤ y → rhoN g C n v y = 0 := by
    intro n
    induction n with
    | zero => exact fun _ => ⟨hv, hx, ht, fun y y0 y1 => by omega⟩
    | succ n ih =>
      intro hn
      obtain ⟨i1, i2, i3, i4⟩ := ih (by omega)
      have q0 : 0 ≤ g - 1 - n := by omega
      have q1 : g - 1 - (n : Int) < g := by omega
      show SP g F (rho C (g - 1 - n) (rhoN g C n v)) ∧ rho C (g - 1 - n) (rhoN g C n v) x ≠ 0 ∧ (∀ y, x < y → y < g → rho C (g - 1 - n) (rhoN g C n v) y = 0) ∧ ∀ y, g - 1 - ((n + 1 : Nat) : Int) < y → y < g → C y y ≠ 0 → 0 ≤ y → rho C (g - 1 - n) (rhoN g C n v) y = 0
      unfold rho
      by_cases hp : C (g - 1 - n) (g - 1 - n) = 0
      · rw [if_pos hp]
        refine ⟨i1, i2, i3, fun y y0 y1 hy y2 => ?_⟩
        by_cases e : y = g - 1 - n
        · rw [e] at hy; exact absurd hp hy
        · exact i4 y (by omega) y1 hy y2
      · rw [if_neg hp]
        refine ⟨(SP_sub _ _).el i1 (cS _ q0 q1 hp) _, fun q => ?_, fun y y0 y1 => ?_, fun y y0 y1 hy y2 => ?_⟩
        · unfold elm at q
          by_cases l : g - 1 - (n : Int) < x
          · rw [cT _ q0 q1 hp x l x1, Int.zero_mul, Int.sub_zero] at q
            rcases Int.mul_eq_zero.mp q with q | q
            · exact i2 q
            · exact hp q
          · by_cases e : x = g - 1 - n
            · rw [e] at hz; exact hp hz
            · rw [i3 (g - 1 - n) (by omega) q1, Int.mul_zero, Int.sub_zero] at q
              rcases Int.mul_eq_zero.mp q with q | q
              · exact i2 q
              · exact hp q
        · unfold elm
          by_cases l : g - 1 - (n : Int) ≤ x
          · rw [i3 y y0 y1, cT _ q0 q1 hp y (by omega) y1]; simp
          · rw [i3 y y0 y1, i3 (g - 1 - n) (by omega) q1]; simp
        · by_cases e : y = g - 1 - n
          · rw [e]; exact elm_s ..
          · unfold elm; rw [i4 y (by omega) y1 hy y2, cT _ q0 q1 hp y (by omega) y1]; simp
  obtain ⟨k1, k2, -, k4⟩ := key g.toNat (by omega)
  exact k2 (hR _ k1 (fun y y0 y1 hy => k4 y (by omega) y1 hy y0) x x0 x1)
theorem CL_piv {g : Int} {F : VC → Prop} {C C' : Int → VC} (hg : 0 ≤ g) (hC : CL g F C g) (hC' : CL g F C' g) : ∀ x, 0 ≤ x → x < g → (C x x = 0 ↔ C' x x = 0) := fun x x0 x1 =>
  ⟨fun h => Classical.byContradiction fun q => LEADP hg hC x0 x1 (hC'.2.1 x x0 x1 q) q (hC'.1 x x0 x1 q) h, fun h => Classical.byContradiction fun q => LEADP hg hC' x0 x1 (hC.2.1 x x0 x1 q) q (hC.1 x x0 x1 q) h⟩
theorem cnF_c {g : Int} {C C' : Int → VC} (h : ∀ x, 0 ≤ x → x < g → (C x x = 0 ↔ C' x x = 0)) {f : Int} (f1 : f ≤ g) : cnF C f = cnF C' f := by
  unfold cnF
  exact cntI_c _ fun k k0 k1 => by have := h k k0 (by omega); show (C k k == 0) = (C' k k == 0); rw [Bool.eq_iff_iff, beq_iff_eq, beq_iff_eq]; exact this
theorem cnF_ex {C : Int → VC} {r : Int} (r0 : 0 ≤ r) : ∀ n : Nat, r < cnF C n → ∃ f : Int, 0 ≤ f ∧ f < n ∧ C f f = 0 ∧ cnF C f = r
  | 0, h => by have := cnF_b C (f := ((0 : Nat) : Int)) (by decide); omega
  | n + 1, h => by
    by_cases q : r < cnF C n
    · obtain ⟨f, a, b, c, d⟩ := cnF_ex r0 n q
      exact ⟨f, a, by omega, c, d⟩
    · have e := cnF_S (C := C) (f := n) (by omega)
      have h' : r < cnF C (n + 1) := h
      rw [e] at h'
      by_cases z : C n n = 0
      · rw [if_pos z] at h'
        exact ⟨n, by omega, by omega, z, by omega⟩
      · rw [if_neg z] at h'; omega
/-- the basis is told by the sums alone -/
theorem BAS_u {g D D' : Int} {F : VC → Prop} {C C' : Int → VC} {tp bt tp' bt' : Int → Int → Int} (hg : 2 ≤ g ∧ g ≤ 6) (hC : CL g F C g) (hC' : CL g F C' g) (h : BAS g C D tp bt) (h' : BAS g C' D' tp' bt') : D = D' ∧ ∀ r, 0 ≤ r → r < D → ∀ x, 0 ≤ x → x < g → tp r x = tp' r x ∧ bt r x = bt' r x := by
  have hp := CL_piv (by omega) hC hC'
  obtain ⟨h1, h2⟩ := h
  obtain ⟨h1', h2'⟩ := h'
  refine ⟨by rw [h1, h1']; exact cnF_c hp (Int.le_refl _), fun r r0 r1 x x0 x1 => ?_⟩
  obtain ⟨f, f0, f1, f2, f3⟩ := cnF_ex r0 g.toNat (by rw [h1] at r1; rw [show ((g.toNat : Nat) : Int) = g by omega]; exact r1)
  have a := h2 f f0 (by omega) f2 x x0 x1
  have b := h2' f f0 (by omega) ((hp f f0 (by omega)).mp f2) x x0 x1
  rw [← cnF_c hp (by omega), f3] at b
  rw [f3] at a
  by_cases z : C x x = 0
  · have a2 := a.2 z
    have b2 := b.2 ((hp x x0 x1).mp z)
    exact ⟨a2.1.trans b2.1.symm, a2.2.trans b2.2.symm⟩
  · have z' : C' x x ≠ 0 := fun q => z ((hp x x0 x1).mpr q)
    have red : ∀ {K : Int → VC}, CL g F K g → K x x ≠ 0 → ∀ y, 0 ≤ y → y < g → K y y ≠ 0 → y ≠ x → K x y = 0 := fun hK hx y y0 y1 hy yx => by
      by_cases l : y < x
      · exact (hK.2.2.2.2.2 x x0 x1 hx x1).2 y y0 l hy
      · exact hK.1 x x0 x1 hx y (by omega) y1
    have e := PROP (SP_sub g F) (CL_red (by omega) hC) ⟨x0, x1⟩ (hC.2.1 x x0 x1 z) (hC'.2.1 x x0 x1 z') (red hC z) (fun y y0 y1 hy yx => red hC' z' y y0 y1 (fun q => hy ((hp y y0 y1).mpr q)) yx) f f0 (by omega)
    exact LT_u (a.1 z) (b.1 z') z z' (by rw [Int.neg_mul, Int.neg_mul, e])
