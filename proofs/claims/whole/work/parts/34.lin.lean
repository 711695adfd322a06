/-! spans, echelon rows, bounds -/
abbrev VC : Type := Int → Int
def cmb (a : Int) (v : VC) (b : Int) (w : VC) : VC := fun x => a * v x + b * w x
def elm (v u : VC) (p : Int) : VC := fun x => v x * u p - u x * v p
theorem elm_c (v u : VC) (p : Int) : elm v u p = cmb (u p) v (-(v p)) u := by
  funext x; unfold elm cmb; rw [Int.neg_mul, Int.mul_comm (u p), Int.mul_comm (v p)]; omega
def SUB (g : Int) (L : VC → Prop) : Prop := L (fun _ => 0) ∧ (∀ a v b w, L v → L w → L (cmb a v b w)) ∧ (∀ d v, d ≠ 0 → L (fun x => d * v x) → L v) ∧ (∀ v w, (∀ x, 0 ≤ x → x < g → v x = w x) → L v → L w)
def SP (g : Int) (A : VC → Prop) (v : VC) : Prop := ∀ L, SUB g L → (∀ u, A u → L u) → L v
theorem SP_sub (g : Int) (A : VC → Prop) : SUB g (SP g A) := ⟨fun _ hL _ => hL.1, fun a v b w hv hw L hL hA => hL.2.1 a v b w (hv L hL hA) (hw L hL hA), fun d v hd hv L hL hA => hL.2.2.1 d v hd (hv L hL hA), fun v w e hv L hL hA => hL.2.2.2 v w e (hv L hL hA)⟩
theorem SP_in {g : Int} {A : VC → Prop} {v : VC} (h : A v) : SP g A v := fun _ _ hA => hA v h
theorem SP_le {g : Int} {A B : VC → Prop} (h : ∀ u, A u → SP g B u) {v : VC} (hv : SP g A v) : SP g B v := hv _ (SP_sub g B) h
theorem SUB.el {g : Int} {L : VC → Prop} (h : SUB g L) {v u : VC} (hv : L v) (hu : L u) (p : Int) : L (elm v u p) := by rw [elm_c]; exact h.2.1 _ _ _ _ hv hu
def ab (x : Int) : Int := if 0 ≤ x then x else -x
theorem ab_d (x : Int) : (0 ≤ x ∧ ab x = x) ∨ (x < 0 ∧ ab x = -x) := by unfold ab; split <;> omega
theorem ab_mul (x y : Int) : ab (x * y) = ab x * ab y := by
  rcases ab_d x with ⟨h1, e1⟩ | ⟨h1, e1⟩ <;> rcases ab_d y with ⟨h2, e2⟩ | ⟨h2, e2⟩ <;> rw [e1, e2]
  · unfold ab; rw [if_pos (Int.mul_nonneg h1 h2)]
  · rw [Int.mul_neg]
    have := Int.mul_nonneg h1 (show 0 ≤ -y by omega)
    rw [Int.mul_neg] at this
    rcases ab_d (x * y) with ⟨h, e⟩ | ⟨h, e⟩ <;> omega
  · rw [Int.neg_mul]
    have := Int.mul_nonneg (show 0 ≤ -x by omega) h2
    rw [Int.neg_mul] at this
    rcases ab_d (x * y) with ⟨h, e⟩ | ⟨h, e⟩ <;> omega
  · rw [Int.neg_mul_neg]
    have := Int.mul_nonneg (show 0 ≤ -x by omega) (show 0 ≤ -y by omega)
    rw [Int.neg_mul_neg] at this
    unfold ab; rw [if_pos this]
theorem ab_nn (x : Int) : 0 ≤ ab x := by rcases ab_d x with h | h <;> omega
def NB (g b : Int) (v : VC) : Prop := sm v g.toNat = 0 ∧ sm (fun x => ab (v x)) g.toNat ≤ 2 * b
theorem sm_ab (v : VC) : ∀ n : Nat, ab (sm v n) ≤ sm (fun x => ab (v x)) n ∧ ∀ x : Int, 0 ≤ x → x < n → 2 * ab (v x) ≤ sm (fun x => ab (v x)) n + ab (sm v n)
  | 0 => ⟨Int.le_refl _, fun x h0 h1 => by omega⟩
  | n + 1 => by
    obtain ⟨h1, h2⟩ := sm_ab v n
    unfold sm
    have a1 := ab_d (sm v n)
    have a2 := ab_d (v n)
    have a3 := ab_d (sm v n + v n)
    refine ⟨by omega, fun x x0 x1 => ?_⟩
    by_cases e : x = n
    · subst e; omega
    · have := h2 x x0 (by omega)
      omega
theorem NB_e {g b : Int} {v : VC} (h : NB g b v) {x : Int} (h0 : 0 ≤ x) (h1 : x < g) : ab (v x) ≤ b ∧ -b ≤ v x ∧ v x ≤ b := by
  have := (sm_ab v g.toNat).2 x h0 (by omega)
  rw [h.1] at this
  have a := ab_d (v x)
  have := h.2
  have : ab 0 = 0 := by decide
  omega
theorem NB_nn {g b : Int} {v : VC} (h : NB g b v) : 0 ≤ b := by
  have := h.2
  have h2 := sm_nn (f := fun x => ab (v x)) g.toNat (fun i _ _ => ab_nn _)
  omega
theorem NB_mono {g b c : Int} {v : VC} (h : NB g b v) (hc : b ≤ c) : NB g c v := ⟨h.1, by have := h.2; omega⟩
theorem NB_c {g b : Int} {v w : VC} (h : NB g b v) (e : ∀ x, 0 ≤ x → x < g → v x = w x) : NB g b w := by
  refine ⟨?_, ?_⟩
  · rw [← sm_c g.toNat (fun i h0 h1 => e i h0 (by omega))]; exact h.1
  · rw [← sm_c (f := fun x => ab (v x)) g.toNat (fun i h0 h1 => by rw [e i h0 (by omega)])]; exact h.2
theorem NB_div {g b d : Int} {v w : VC} (h : NB g b w) (hd : d ≠ 0) (e : ∀ x, 0 ≤ x → x < g → w x = d * v x) : NB g b v := by
  refine ⟨?_, Int.le_trans (sm_le g.toNat fun i h0 h1 => ?_) h.2⟩
  · have h1 := h.1
    rw [sm_c g.toNat (fun i h0 h1 => e i h0 (by omega)), sm_mul] at h1
    exact (Int.mul_eq_zero.mp h1).elim (fun q => absurd q hd) id
  · rw [e i h0 (by omega), ab_mul]
    have h1 := ab_nn (v i)
    have h2 : 1 ≤ ab d := by rcases ab_d d with q | q <;> omega
    have := Int.mul_le_mul_of_nonneg_right h2 h1
    omega
theorem NB_el {g a b p : Int} {v u : VC} (hv : NB g a v) (hu : NB g b u) (h0 : 0 ≤ p) (h1 : p < g) : NB g (a * b) (elm v u p) := by
  have s1 := (NB_e hv h0 h1).1
  have t1 := (NB_e hu h0 h1).1
  have s0 := ab_nn (v p)
  have t0 := ab_nn (u p)
  refine ⟨?_, ?_⟩
  · have e : sm (elm v u p) g.toNat = u p * sm v g.toNat + -(v p) * sm u g.toNat := by rw [elm_c, ← sm_mul, ← sm_mul, ← sm_add]; rfl
    rw [e, hv.1, hu.1]; simp
  · have key : sm (fun x => ab (elm v u p x)) g.toNat ≤ sm (fun x => ab (u p) * ab (v x) + (ab (v p) * ab (u x) + (if (true && (p == x)) = true then -(2 * (ab (v p) * ab (u p))) else 0))) g.toNat := sm_le _ fun x x0 x1 => by
      by_cases e : x = p
      · subst e
        rw [if_pos (by simp)]
        have : elm v u x x = 0 := by unfold elm; rw [Int.mul_comm]; omega
        rw [this, Int.mul_comm (ab (u x))]
        have : ab 0 = 0 := by decide
        omega
      · rw [if_neg (by simp; omega)]
        have e1 := ab_mul (v x) (u p)
        have e2 := ab_mul (u x) (v p)
        rw [Int.mul_comm (ab (u p)), Int.mul_comm (ab (v p)), ← e1, ← e2]
        unfold elm
        rcases ab_d (v x * u p) with q | q <;> rcases ab_d (u x * v p) with z | z <;> rcases ab_d (v x * u p - u x * v p) with y | y <;> omega
    rw [sm_add, sm_add, sm_mul, sm_mul, sm_one, if_pos ⟨rfl, h0, by omega⟩] at key
    have hA := hv.2
    have hB := hu.2
    have k1 : ab (u p) * sm (fun x => ab (v x)) g.toNat ≤ ab (u p) * (2 * a) := Int.mul_le_mul_of_nonneg_left hA t0
    have k2 : ab (v p) * sm (fun x => ab (u x)) g.toNat ≤ ab (v p) * (2 * b) := Int.mul_le_mul_of_nonneg_left hB s0
    have k3 : 0 ≤ (a - ab (v p)) * (b - ab (u p)) := Int.mul_nonneg (by omega) (by omega)
    rw [Int.sub_mul, Int.mul_sub, Int.mul_sub] at k3
    rw [Int.mul_left_comm, ] at k1 k2
    rw [Int.mul_comm (ab (u p)) a] at k1
    omega
theorem SUB_z (g p : Int) (h0 : 0 ≤ p) (h1 : p < g) : SUB g (fun v => v p = 0) := ⟨rfl, fun a v b w hv hw => by show a * v p + b * w p = 0; rw [hv, hw]; simp, fun d v hd h => (Int.mul_eq_zero.mp h).elim (fun q => absurd q hd) id, fun v w e h => by show w p = 0; rw [← e p h0 h1]; exact h⟩
theorem SUB_0 (g : Int) : SUB g (fun v => ∀ x, 0 ≤ x → x < g → v x = 0) := ⟨fun _ _ _ => rfl, fun a v b w hv hw x h0 h1 => by show a * v x + b * w x = 0; rw [hv x h0 h1, hw x h0 h1]; simp, fun d v hd h x h0 h1 => (Int.mul_eq_zero.mp (h x h0 h1)).elim (fun q => absurd q hd) id, fun v w e h x h0 h1 => by rw [← e x h0 h1]; exact h x h0 h1⟩
/-- from the span of F the part that is 0 at p: spanned by the eliminated ones -/
theorem SP_el {g p : Int} (h0 : 0 ≤ p) (h1 : p < g) {F : VC → Prop} {u : VC} (hu : u p ≠ 0) {v : VC} (hv : SP g F v) (hz : v p = 0) : SP g (fun w => ∃ f, F f ∧ w = elm f u p) v := by
  have hS := SP_sub g (fun w => ∃ f, F f ∧ w = elm f u p)
  have key : SP g (fun w => ∃ f, F f ∧ w = elm f u p) (elm v u p) := hv (fun v => SP g (fun w => ∃ f, F f ∧ w = elm f u p) (elm v u p)) ⟨by show SP g (fun w => ∃ f, F f ∧ w = elm f u p) (elm (fun _ => 0) u p); rw [show elm (fun _ => 0) u p = fun _ => 0 by funext x; unfold elm; simp]; exact hS.1,
      fun a v b w hv hw => by
        show SP g (fun w => ∃ f, F f ∧ w = elm f u p) (elm (cmb a v b w) u p)
        rw [show elm (cmb a v b w) u p = cmb a (elm v u p) b (elm w u p) by
          funext x; unfold elm cmb
          rw [Int.add_mul, Int.mul_add, Int.mul_sub, Int.mul_sub, Int.mul_assoc, Int.mul_assoc, Int.mul_left_comm (u x), Int.mul_left_comm (u x)]; omega]
        exact hS.2.1 _ _ _ _ hv hw,
      fun d v hd h => hS.2.2.1 d _ hd (by
        rw [show (fun x => d * elm v u p x) = elm (fun x => d * v x) u p by
          funext x; unfold elm
          rw [Int.mul_sub, Int.mul_assoc, Int.mul_left_comm (u x)]]
        exact h),
      fun v w e h => hS.2.2.2 _ _ (fun x x0 x1 => by unfold elm; rw [e x x0 x1, e p h0 h1]) h⟩
    (fun f hf => SP_in ⟨f, hf, rfl⟩)
  refine hS.2.2.1 (u p) v hu (hS.2.2.2 _ _ (fun x _ _ => ?_) key)
  unfold elm
  rw [hz, Int.mul_zero, Int.sub_zero, Int.mul_comm]
theorem pw_mono {b : Int} (hb : 1 ≤ b) {m n : Nat} (h : m ≤ n) : b ^ m ≤ b ^ n := by
  obtain ⟨k, rfl⟩ := Nat.le.dest h
  rw [Int.pow_add]
  have h1 : 1 ≤ b ^ k := Int.pow_pos (by omega)
  have h2 : 0 ≤ b ^ m := Int.le_of_lt (Int.pow_pos (by omega))
  have := Int.mul_le_mul_of_nonneg_left h1 h2
  omega
theorem EXQ {g : Int} : ∀ (Q : List Int) (F : VC → Prop) (b : Int) (w : VC), (∀ q ∈ Q, 0 ≤ q ∧ q < g) → 1 ≤ b → (∀ f, F f → NB g b f) → SP g F w → (∃ x, 0 ≤ x ∧ x < g ∧ w x ≠ 0) → (∀ q ∈ Q, w q = 0) →
    ∃ v, SP g F v ∧ (∃ x, 0 ≤ x ∧ x < g ∧ v x ≠ 0) ∧ (∀ q ∈ Q, v q = 0) ∧ NB g (b ^ (2 ^ Q.length)) v
  | [], F, b, w, _, _, hF, hw, hn, _ => by
    refine Classical.byContradiction fun z => ?_
    have : ∀ x, 0 ≤ x → x < g → w x = 0 := hw _ (SUB_0 g) fun f hf x h0 h1 => Classical.byContradiction fun q => z ⟨f, SP_in hf, ⟨x, h0, h1, q⟩, fun q hq => by simp at hq, by show NB g (b ^ (2 ^ 0)) f; rw [Nat.pow_zero, Int.pow_one]; exact hF f hf⟩
    obtain ⟨x, h0, h1, h2⟩ := hn
    exact h2 (this x h0 h1)
  | p :: Q, F, b, w, hQ, hb, hF, hw, hn, hz => by
    have hp := hQ p List.mem_cons_self
    by_cases hu : ∃ u, F u ∧ u p ≠ 0
    · obtain ⟨u, hu, hup⟩ := hu
      obtain ⟨v, v1, v2, v3, v4⟩ := EXQ Q (fun w => ∃ f, F f ∧ w = elm f u p) (b * b) w (fun q hq => hQ q (List.mem_cons_of_mem _ hq)) (by have := Int.mul_le_mul hb hb (by omega) (by omega); omega)
        (fun f ⟨f0, hf, e⟩ => by rw [e]; exact NB_el (hF f0 hf) (hF u hu) hp.1 hp.2) (SP_el hp.1 hp.2 hup hw (hz p List.mem_cons_self)) hn (fun q hq => hz q (List.mem_cons_of_mem _ hq))
      refine ⟨v, SP_le (fun f ⟨f0, hf, e⟩ => by rw [e]; exact (SP_sub g F).el (SP_in hf) (SP_in hu) p) v1, v2, fun q hq => ?_, ?_⟩
      · rcases List.mem_cons.mp hq with e | e
        · rw [e]
          exact v1 _ (SUB_z g p hp.1 hp.2) fun f ⟨f0, hf, e⟩ => by show f p = 0; rw [e]; unfold elm; rw [Int.mul_comm]; omega
        · exact v3 q e
      · have e : (b * b) ^ (2 ^ Q.length) = b ^ (2 ^ (p :: Q).length) := by
          rw [List.length_cons, Nat.pow_succ, Nat.mul_comm, Int.pow_mul, Int.pow_succ, Int.pow_one]
        rw [← e]; exact v4
    · obtain ⟨v, v1, v2, v3, v4⟩ := EXQ Q F b w (fun q hq => hQ q (List.mem_cons_of_mem _ hq)) hb hF hw hn (fun q hq => hz q (List.mem_cons_of_mem _ hq))
      refine ⟨v, v1, v2, fun q hq => ?_, NB_mono v4 (pw_mono hb (Nat.pow_le_pow_right (by decide) (by simp)))⟩
      rcases List.mem_cons.mp hq with e | e
      · rw [e]
        exact v1 _ (SUB_z g p hp.1 hp.2) fun f hf => Classical.byContradiction fun z => hu ⟨f, hf, z⟩
      · exact v3 q e
/-- a common denominator -/
theorem DEN {g : Int} : ∀ (Q : List Int) (F : VC → Prop) (b : Int), Q.Nodup → (∀ q ∈ Q, 0 ≤ q ∧ q < g) → 1 ≤ b → (∀ f, F f → NB g b f) → (∀ q ∈ Q, ∃ w, SP g F w ∧ w q ≠ 0 ∧ ∀ p ∈ Q, p ≠ q → w p = 0) →
    ∃ d, d ≠ 0 ∧ ab d ≤ b ^ (2 ^ Q.length - 1) ∧ ∀ q ∈ Q, ∃ w, SP g F w ∧ w q = d ∧ ∀ p ∈ Q, p ≠ q → w p = 0
  | [], _, _, _, _, _, _, _ => ⟨1, by decide, by simp; decide, fun q hq => by simp at hq⟩
  | p :: Q, F, b, hN, hQ, hb, hF, hw => by
    have hp := hQ p List.mem_cons_self
    have hN2 := List.nodup_cons.mp hN
    have hu : ∃ u, F u ∧ u p ≠ 0 := Classical.byContradiction fun z => by
      obtain ⟨w, w1, w2, -⟩ := hw p List.mem_cons_self
      exact w2 (w1 _ (SUB_z g p hp.1 hp.2) fun f hf => Classical.byContradiction fun y => z ⟨f, hf, y⟩)
    obtain ⟨u, hu, hup⟩ := hu
    obtain ⟨d, d0, d1, d2⟩ := DEN Q (fun w => ∃ f, F f ∧ w = elm f u p) (b * b) hN2.2 (fun q hq => hQ q (List.mem_cons_of_mem _ hq)) (by have := Int.mul_le_mul hb hb (by omega) (by omega); omega)
      (fun f ⟨f0, hf, e⟩ => by rw [e]; exact NB_el (hF f0 hf) (hF u hu) hp.1 hp.2)
      (fun q hq => by
        obtain ⟨w, w1, w2, w3⟩ := hw q (List.mem_cons_of_mem _ hq)
        exact ⟨w, SP_el hp.1 hp.2 hup w1 (w3 p List.mem_cons_self (fun e => hN2.1 (e ▸ hq))), w2, fun r hr => w3 r (List.mem_cons_of_mem _ hr)⟩)
    have up0 : ∀ w, SP g (fun w => ∃ f, F f ∧ w = elm f u p) w → w p = 0 ∧ SP g F w := fun w h => ⟨h _ (SUB_z g p hp.1 hp.2) fun f ⟨f0, hf, e⟩ => by show f p = 0; rw [e]; unfold elm; rw [Int.mul_comm]; omega, SP_le (fun f ⟨f0, hf, e⟩ => by rw [e]; exact (SP_sub g F).el (SP_in hf) (SP_in hu) p) h⟩
    -- u cleared at Q, times d
    have clr : ∀ R : List Int, R.Nodup → (∀ r ∈ R, r ∈ Q) → ∃ w, SP g F w ∧ w p = u p * d ∧ (∀ r ∈ R, w r = 0) ∧ ∀ r ∈ Q, r ∉ R → w r = u r * d := by
      intro R
      induction R with
      | nil => intro _ _; exact ⟨fun x => d * u x, (SP_sub g F).2.2.2 _ _ (fun x _ _ => by show d * u x + 0 * u x = d * u x; simp) ((SP_sub g F).2.1 d u 0 u (SP_in hu) (SP_in hu)), Int.mul_comm .., fun r hr => by simp at hr, fun r _ _ => Int.mul_comm ..⟩
      | cons r R ih =>
        intro hR hRQ
        have hR2 := List.nodup_cons.mp hR
        obtain ⟨w, w1, w2, w3, w4⟩ := ih hR2.2 (fun x hx => hRQ x (List.mem_cons_of_mem _ hx))
        obtain ⟨z, z1, z2, z3⟩ := d2 r (hRQ r List.mem_cons_self)
        refine ⟨cmb 1 w (-(u r)) z, (SP_sub g F).2.1 _ _ _ _ w1 (up0 z z1).2, ?_, fun x hx => ?_, fun x hx hn => ?_⟩
        · show 1 * w p + -(u r) * z p = _
          rw [(up0 z z1).1, w2]; simp
        · show 1 * w x + -(u r) * z x = 0
          rcases List.mem_cons.mp hx with e | e
          · rw [e, w4 r (hRQ r List.mem_cons_self) hR2.1, z2, Int.neg_mul]; omega
          · rw [w3 x e, z3 x (hRQ x (List.mem_cons_of_mem _ e)) (fun q => hR2.1 (q ▸ e))]; simp
        · show 1 * w x + -(u r) * z x = _
          rw [w4 x hx (fun q => hn (List.mem_cons_of_mem _ q)), z3 x hx (fun q => hn (q ▸ List.mem_cons_self))]; simp
    obtain ⟨w, w1, w2, w3, -⟩ := clr Q hN2.2 (fun _ h => h)
    refine ⟨u p * d, Int.mul_ne_zero hup d0, ?_, fun q hq => ?_⟩
    · rw [ab_mul]
      have e1 := (NB_e (hF u hu) hp.1 hp.2).1
      have e2 : b * (b * b) ^ (2 ^ Q.length - 1) = b ^ (2 ^ (p :: Q).length - 1) := by
        have h1 : 1 ≤ 2 ^ Q.length := Nat.one_le_two_pow
        rw [show b * b = b ^ 2 by rw [Int.pow_succ, Int.pow_one], ← Int.pow_mul, List.length_cons, Nat.pow_succ]
        rw [show 2 ^ Q.length * 2 - 1 = 2 * (2 ^ Q.length - 1) + 1 by omega, Int.pow_succ, Int.mul_comm]
      rw [← e2]
      exact Int.mul_le_mul e1 d1 (ab_nn _) (by omega)
    · rcases List.mem_cons.mp hq with e | e
      · subst e
        exact ⟨w, w1, w2, fun r hr hn => w3 r ((List.mem_cons.mp hr).elim (fun e => absurd e hn) id)⟩
      · obtain ⟨z, z1, z2, z3⟩ := d2 q e
        refine ⟨fun x => u p * z x, (SP_sub g F).2.2.2 _ _ (fun x _ _ => by show u p * z x + 0 * z x = u p * z x; simp) ((SP_sub g F).2.1 (u p) z 0 z (up0 z z1).2 (up0 z z1).2), by show u p * z q = _; rw [z2], fun r hr hn => ?_⟩
        show u p * z r = 0
        rcases List.mem_cons.mp hr with e2 | e2
        · rw [e2, (up0 z z1).1, Int.mul_zero]
        · rw [z3 r e2 hn, Int.mul_zero]
/-- rows whose last number stands at their own place -/
def TRI (g : Int) (C : Int → VC) : Prop := ∀ x, 0 ≤ x → x < g → C x x ≠ 0 → ∀ y, x < y → y < g → C x y = 0
def RED (g : Int) (L : VC → Prop) (C : Int → VC) : Prop := ∀ v, L v → (∀ y, 0 ≤ y → y < g → C y y ≠ 0 → v y = 0) → ∀ x, 0 ≤ x → x < g → v x = 0
def rho (C : Int → VC) (y : Int) (v : VC) : VC := if C y y = 0 then v else elm v (C y) y
/-- from above: g - 1, g - 2 .. -/
def rhoN (g : Int) (C : Int → VC) : Nat → VC → VC
  | 0, v => v
  | n + 1, v => rho C (g - 1 - n) (rhoN g C n v)
theorem rho_lin (C : Int → VC) (y a b : Int) (v w : VC) : rho C y (cmb a v b w) = cmb a (rho C y v) b (rho C y w) := by
  unfold rho
  split
  · rfl
  · funext x; unfold elm cmb
    rw [Int.add_mul, Int.mul_add, Int.mul_sub, Int.mul_sub, Int.mul_assoc, Int.mul_assoc, Int.mul_left_comm (C y x), Int.mul_left_comm (C y x)]; omega
theorem rhoN_lin (g : Int) (C : Int → VC) (a b : Int) (v w : VC) : ∀ n, rhoN g C n (cmb a v b w) = cmb a (rhoN g C n v) b (rhoN g C n w)
  | 0 => rfl
  | n + 1 => by unfold rhoN; rw [rhoN_lin g C a b v w n, rho_lin]
theorem rho_e {g : Int} {C : Int → VC} {y : Int} (h0 : 0 ≤ y) (h1 : y < g) {v w : VC} (e : ∀ x, 0 ≤ x → x < g → v x = w x) : ∀ x, 0 ≤ x → x < g → rho C y v x = rho C y w x := fun x x0 x1 => by
  unfold rho
  split
  · exact e x x0 x1
  · unfold elm; rw [e x x0 x1, e y h0 h1]
theorem rhoN_e {g : Int} {C : Int → VC} {v w : VC} (e : ∀ x, 0 ≤ x → x < g → v x = w x) : ∀ n : Nat, (n : Int) ≤ g → ∀ x, 0 ≤ x → x < g → rhoN g C n v x = rhoN g C n w x
  | 0, _ => e
  | n + 1, h => rho_e (by omega) (by omega) (rhoN_e e n (by omega))
theorem smul_cmb (d : Int) (v : VC) : (fun x => d * v x) = cmb d v 0 v := by funext x; unfold cmb; simp
theorem SUB_rho (g : Int) (hg : 0 ≤ g) (C : Int → VC) : SUB g (fun v => ∀ x, 0 ≤ x → x < g → rhoN g C g.toNat v x = 0) := by
  refine ⟨fun x h0 h1 => ?_, fun a v b w hv hw x h0 h1 => ?_, fun d v hd h x h0 h1 => ?_, fun v w e h x h0 h1 => ?_⟩
  · have := congrFun (rhoN_lin g C 0 0 (fun _ => 0) (fun _ => 0) g.toNat) x
    rw [show cmb 0 (fun _ => 0) 0 (fun _ => 0) = fun _ => 0 by funext z; unfold cmb; simp] at this
    rw [this]; unfold cmb; simp
  · rw [rhoN_lin]; show a * _ + b * _ = 0; rw [hv x h0 h1, hw x h0 h1]; simp
  · have := h x h0 h1
    rw [smul_cmb, rhoN_lin] at this
    have h2 : d * rhoN g C g.toNat v x + 0 * rhoN g C g.toNat v x = 0 := this
    rw [Int.zero_mul, Int.add_zero] at h2
    exact (Int.mul_eq_zero.mp h2).elim (fun q => absurd q hd) id
  · rw [← rhoN_e e g.toNat (by omega) x h0 h1]; exact h x h0 h1
theorem RED_of {g : Int} (hg : 0 ≤ g) {C : Int → VC} {L : VC → Prop} (hT : TRI g C) (hL : ∀ v, L v → SP g (fun w => ∃ x, 0 ≤ x ∧ x < g ∧ C x x ≠ 0 ∧ w = C x) v) : RED g L C := by
  -- what reduces a row of its own to 0
  have key1 : ∀ x, 0 ≤ x → x < g → C x x ≠ 0 → ∀ n : Nat, (n : Int) ≤ g → (∃ k, k ≠ 0 ∧ (g - n > x) ∧ ∀ z, 0 ≤ z → z < g → rhoN g C n (C x) z = k * C x z) ∨ (g - n ≤ x ∧ ∀ z, 0 ≤ z → z < g → rhoN g C n (C x) z = 0) := by
    intro x x0 x1 hx n
    induction n with
    | zero => intro _; exact Or.inl ⟨1, by decide, by simp; omega, fun z _ _ => (Int.one_mul _).symm⟩
    | succ n ih =>
      intro hn
      rcases ih (by omega) with ⟨k, k0, k1, k2⟩ | ⟨k1, k2⟩
      · by_cases e : g - 1 - n = x
        · refine Or.inr ⟨by omega, fun z z0 z1 => ?_⟩
          show rho C (g - 1 - n) (rhoN g C n (C x)) z = 0
          rw [e]; unfold rho; rw [if_neg hx]; unfold elm
          rw [k2 z z0 z1, k2 x x0 x1, Int.mul_assoc, Int.mul_left_comm (C x z)]; omega
        · by_cases hy : C (g - 1 - n) (g - 1 - n) = 0
          · refine Or.inl ⟨k, k0, by omega, fun z z0 z1 => ?_⟩
            show rho C (g - 1 - n) (rhoN g C n (C x)) z = _
            unfold rho; rw [if_pos hy]; exact k2 z z0 z1
          · refine Or.inl ⟨k * C (g - 1 - n) (g - 1 - n), Int.mul_ne_zero k0 hy, by omega, fun z z0 z1 => ?_⟩
            show rho C (g - 1 - n) (rhoN g C n (C x)) z = _
            unfold rho; rw [if_neg hy]; unfold elm
            rw [k2 z z0 z1, k2 _ (show 0 ≤ g - 1 - n by omega) (by omega), hT x x0 x1 hx (g - 1 - n) (by omega) (by omega), Int.mul_zero, Int.mul_zero, Int.sub_zero, Int.mul_right_comm]
      · refine Or.inr ⟨by omega, fun z z0 z1 => ?_⟩
        show rho C (g - 1 - n) (rhoN g C n (C x)) z = 0
        unfold rho
        split
        · exact k2 z z0 z1
        · unfold elm; rw [k2 z z0 z1, k2 _ (by omega) (by omega)]; simp
  intro v hv hz
  have h1 : ∀ x, 0 ≤ x → x < g → rhoN g C g.toNat v x = 0 := hL v hv _ (SUB_rho g hg C) fun w ⟨x, x0, x1, hx, e⟩ => by
    subst e
    rcases key1 x x0 x1 hx g.toNat (by omega) with ⟨k, -, k1, -⟩ | ⟨-, k2⟩
    · omega
    · exact k2
  have h2 : ∀ n : Nat, (n : Int) ≤ g → ∃ k, k ≠ 0 ∧ ∀ z, 0 ≤ z → z < g → rhoN g C n v z = k * v z := by
    intro n
    induction n with
    | zero => intro _; exact ⟨1, by decide, fun z _ _ => (Int.one_mul _).symm⟩
    | succ n ih =>
      intro hn
      obtain ⟨k, k0, k1⟩ := ih (by omega)
      by_cases hy : C (g - 1 - n) (g - 1 - n) = 0
      · exact ⟨k, k0, fun z z0 z1 => by show rho C (g - 1 - n) (rhoN g C n v) z = _; unfold rho; rw [if_pos hy]; exact k1 z z0 z1⟩
      · refine ⟨k * C (g - 1 - n) (g - 1 - n), Int.mul_ne_zero k0 hy, fun z z0 z1 => ?_⟩
        show rho C (g - 1 - n) (rhoN g C n v) z = _
        unfold rho; rw [if_neg hy]; unfold elm
        rw [k1 z z0 z1, k1 _ (show 0 ≤ g - 1 - n by omega) (by omega), hz _ (by omega) (by omega) hy, Int.mul_zero, Int.mul_zero, Int.sub_zero, Int.mul_right_comm]
  obtain ⟨k, k0, k1⟩ := h2 g.toNat (by omega)
  intro x x0 x1
  have := k1 x x0 x1
  rw [h1 x x0 x1] at this
  exact (Int.mul_eq_zero.mp this.symm).elim (fun q => absurd q k0) id
