/-! Needs: what its answers rest on. -/
section ND1
variable {lo hi : Nat → Nat} {ST : Nat → Int32} {cnt : Nat}
theorem ps_cg (hlo : ∀ j, j < cnt → lo j < 11) (hhi : ∀ j, j < cnt → hi j < 11) {KP KP' : Nat → Int32} (hk : ∀ j, j < cnt → KP j = KP' j) : ∀ (m i : Nat) (NB NB' : Nat → Int32) (b : Int32), i + m = cnt → (∀ j, j < 11 → NB j = NB' j) → (ps lo hi ST KP i m NB b).2 = (ps lo hi ST KP' i m NB' b).2 ∧ ∀ j, j < 11 → (ps lo hi ST KP i m NB b).1 j = (ps lo hi ST KP' i m NB' b).1 j
  | 0, _, _, _, _, _, h => ⟨rfl, h⟩
  | m + 1, i, NB, NB', b, hm, h => by
    have e1 := h _ (hlo i (by omega)); have e2 := h _ (hhi i (by omega)); have ek := hk i (by omega)
    rcases (inferInstance : Decidable (KP i = 0)) with h0 | h0
    · rcases (inferInstance : Decidable (NB (lo i) + ST i ≤ NB (hi i))) with h2 | h2
      · rw [ps_2 h0 h2, ps_2 (by rw [← ek]; exact h0) (by rw [← e1, ← e2]; exact h2)]
        refine ps_cg hlo hhi hk m (i + 1) _ _ 1 (by omega) (fun j hj => ?_)
        rcases Nat.decEq j (hi i) with z | z
        · rw [pk_un z, pk_un z]; exact h j hj
        · rw [z, pk_us, pk_us, e1]
      · rw [ps_1 h0 h2, ps_1 (by rw [← ek]; exact h0) (by rw [← e1, ← e2]; exact h2)]
        exact ps_cg hlo hhi hk m (i + 1) _ _ b (by omega) h
    · rw [ps_0 h0, ps_0 (by rw [← ek]; exact h0)]
      exact ps_cg hlo hhi hk m (i + 1) _ _ b (by omega) h
theorem rds_cg (hlo : ∀ j, j < cnt → lo j < 11) (hhi : ∀ j, j < cnt → hi j < 11) {KP KP' : Nat → Int32} (hk : ∀ j, j < cnt → KP j = KP' j) : ∀ (m : Nat) (NB NB' : Nat → Int32), (∀ j, j < 11 → NB j = NB' j) → (rds lo hi ST KP cnt m NB).1 = (rds lo hi ST KP' cnt m NB').1 ∧ ∀ j, j < 11 → (rds lo hi ST KP cnt m NB).2 j = (rds lo hi ST KP' cnt m NB').2 j
  | 0, _, _, h => ⟨rfl, h⟩
  | m + 1, NB, NB', h => by
    obtain ⟨e, f⟩ := ps_cg (ST := ST) hlo hhi hk cnt 0 NB NB' 0 (by omega) h
    rw [rds, rds, ← e, ← f 10 (by decide)]
    split
    · exact ⟨rfl, f⟩
    · split
      · exact rds_cg hlo hhi hk m _ _ f
      · exact ⟨rfl, f⟩
theorem cks_cg (hlo : ∀ j, j < cnt → lo j < 11) (hhi : ∀ j, j < cnt → hi j < 11) {KP KP' : Nat → Int32} (hk : ∀ j, j < cnt → KP j = KP' j) (NB NB' : Nat → Int32) : (cks lo hi ST KP cnt NB).1 = (cks lo hi ST KP' cnt NB').1 ∧ ∀ j, j < 11 → (cks lo hi ST KP cnt NB).2 j = (cks lo hi ST KP' cnt NB').2 j :=
  rds_cg hlo hhi hk 12 _ _ (fun j hj => by rw [fl, fl, if_pos hj, if_pos hj])
theorem kco_cg (hlo : ∀ j, j < cnt → lo j < 11) (hhi : ∀ j, j < cnt → hi j < 11) : ∀ (i : Nat) (KP KP' NB NB' : Nat → Int32), (∀ j, j < cnt → KP j = KP' j) → ∀ j, j < cnt → (kco lo hi ST cnt i KP NB).1 j = (kco lo hi ST cnt i KP' NB').1 j
  | 0, _, _, _, _, h => h
  | i + 1, KP, KP', NB, NB', h => by
    have h1 : ∀ j, j < cnt → upd KP i 0 j = upd KP' i 0 j := fun j hj => by
      rcases Nat.decEq j i with z | z
      · rw [pk_un z, pk_un z]; exact h j hj
      · rw [z, pk_us, pk_us]
    rw [kco, kco]
    refine kco_cg hlo hhi i _ _ _ _ (fun j hj => ?_)
    rcases Nat.decEq j i with z | z
    · rw [pk_un z, pk_un (f := upd KP' i 0) z]; exact h1 j hj
    · rw [z, pk_us, pk_us]; exact (cks_cg hlo hhi h1 _ _).1
end ND1
/-- the answers themselves -/
def SV (lo hi : Nat → Nat) (ST : Nat → Int32) (cnt : Nat) : Int32 := (cks lo hi ST (fun _ => 1) cnt (fun _ => 0)).1
def NV (lo hi : Nat → Nat) (ST : Nat → Int32) (cnt : Nat) : Nat → Int32 := (cks lo hi ST (fun _ => 1) cnt (fun _ => 0)).2
def KV (lo hi : Nat → Nat) (ST : Nat → Int32) (cnt : Nat) : Nat → Int32 := (kco lo hi ST cnt cnt (fun _ => 1) (fun _ => 0)).1
abbrev NdS := (Nat → Int32) × (Nat → Int32) × Int32 × Int32 × Int32
/-- what the class remembers is right -/
def NdC (lo hi : Nat → Nat) (ST : Nat → Int32) (cnt : Nat) (u : NdS) : Prop :=
  (u.2.2.2.1 = 0 → u.2.2.2.2 = 0) ∧ (¬ u.2.2.2.1 = 0 → u.2.2.1 = SV lo hi ST cnt ∧ (¬ u.2.2.1 = 0 → ∀ j, j < 10 → u.2.1 j = NV lo hi ST cnt j) ∧ (u.2.2.2.2 = 0 → ∀ j, j < cnt → u.1 j = 1)) ∧ (¬ u.2.2.2.2 = 0 → ∀ j, j < cnt → u.1 j = KV lo hi ST cnt j)
theorem NdC.new {lo hi : Nat → Nat} {ST : Nat → Int32} {cnt : Nat} {KP NB : Nat → Int32} {sv : Int32} : NdC lo hi ST cnt (KP, NB, sv, 0, 0) := ⟨fun _ => rfl, fun h => absurd rfl h, fun h => absurd rfl h⟩
theorem SV_b {lo hi : Nat → Nat} {ST : Nat → Int32} {cnt : Nat} : SV lo hi ST cnt = 0 ∨ SV lo hi ST cnt = 1 := cks_b
theorem KV_b {lo hi : Nat → Nat} {ST : Nat → Int32} {cnt : Nat} : ∀ j, j < cnt → KV lo hi ST cnt j = 0 ∨ KV lo hi ST cnt j = 1 := kco_b cnt _ _ (fun _ _ => Or.inr rfl)
section ND2
variable {lo hi : Nat → Nat} {ST : Nat → Int32} {cnt : Nat}
theorem cks_SV (hlo : ∀ j, j < cnt → lo j < 11) (hhi : ∀ j, j < cnt → hi j < 11) (KP NB : Nat → Int32) : (cks lo hi ST (fl cnt 1 KP) cnt NB).1 = SV lo hi ST cnt := (cks_cg hlo hhi (fun j hj => by rw [fl, if_pos hj]) _ _).1
theorem cks_NV (hlo : ∀ j, j < cnt → lo j < 11) (hhi : ∀ j, j < cnt → hi j < 11) (KP NB : Nat → Int32) : ∀ j, j < 10 → (cks lo hi ST (fl cnt 1 KP) cnt NB).2 j = NV lo hi ST cnt j := fun j hj => (cks_cg hlo hhi (fun j hj => by rw [fl, if_pos hj]) _ _).2 j (by omega)
theorem kco_KV (hlo : ∀ j, j < cnt → lo j < 11) (hhi : ∀ j, j < cnt → hi j < 11) {KP NB : Nat → Int32} (h : ∀ j, j < cnt → KP j = 1) : ∀ j, j < cnt → (kco lo hi ST cnt cnt KP NB).1 j = KV lo hi ST cnt j := kco_cg hlo hhi cnt _ _ _ _ h
theorem NdC.solved (hlo : ∀ j, j < cnt → lo j < 11) (hhi : ∀ j, j < cnt → hi j < 11) (KP NB : Nat → Int32) : NdC lo hi ST cnt (fl cnt 1 KP, (cks lo hi ST (fl cnt 1 KP) cnt NB).2, (cks lo hi ST (fl cnt 1 KP) cnt NB).1, 1, 0) := ⟨fun h => absurd h (show ¬ (1 : Int32) = 0 by decide), fun _ => ⟨cks_SV hlo hhi KP NB, fun _ => cks_NV hlo hhi KP NB, fun _ j hj => show fl cnt 1 KP j = 1 by rw [fl, if_pos hj]⟩, fun h => absurd rfl h⟩
theorem NdC.clash (hlo : ∀ j, j < cnt → lo j < 11) (hhi : ∀ j, j < cnt → hi j < 11) {KP NB NB' : Nat → Int32} {sv sk : Int32} (hs : ¬ sk = 0) (h1 : sv = SV lo hi ST cnt) (h0 : sv = 0) (h : ∀ j, j < cnt → KP j = 1) : NdC lo hi ST cnt ((kco lo hi ST cnt cnt KP NB).1, NB', sv, sk, 1) := ⟨fun h => absurd h hs, fun _ => ⟨h1, fun h => absurd h0 h, fun h => absurd h (show ¬ (1 : Int32) = 0 by decide)⟩, fun _ => kco_KV hlo hhi h⟩
end ND2
theorem if_t {c : Prop} [Decidable c] (h : ¬ (if c then (1 : Int32) else 0) = 0) : c := by
  split at h
  · assumption
  · exact absurd rfl h
theorem nd_sol {sv SV a b : Int32} (h : sv = SV) (h2 : ¬ sv = 0 → a = b) : (if sv = 0 then (-1 : Int32) else a) = if SV = 0 then -1 else b := by
  rw [← h]
  split
  · rfl
  · next z => exact h2 z
