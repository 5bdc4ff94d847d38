/-! The reference's answers about needs are the class's. -/
section NDL
variable {lo hi : Nat → Nat} {ST : Nat → Int32} {cnt : Nat}
def NdB (lo hi : Nat → Nat) (ST : Nat → Int32) (cnt : Nat) : Prop := (∀ j, j < cnt → lo j < 11) ∧ (∀ j, j < cnt → hi j < 11) ∧ (∀ j, j < cnt → -20 ≤ (ST j).toInt ∧ (ST j).toInt ≤ 20) ∧ cnt ≤ 30
theorem sv_m (h : NdB lo hi ST cnt) (CO UN : Nat → Int32) : (slv lo hi ST (fl cnt 1 CO) cnt UN).1 = SV lo hi ST cnt :=
  ((cks_slv h.1 h.2.1 h.2.2.1 h.2.2.2 UN UN).1.symm.trans (cks_SV h.1 h.2.1 CO UN))
theorem nv_m (h : NdB lo hi ST cnt) (CO UN : Nat → Int32) (hs : ¬ SV lo hi ST cnt = 0) (j : Nat) (hj : j < 10) : (slv lo hi ST (fl cnt 1 CO) cnt UN).2 j = NV lo hi ST cnt j := by
  rw [← (cks_slv h.1 h.2.1 h.2.2.1 h.2.2.2 UN UN).2 (by rw [cks_SV h.1 h.2.1 CO UN]; exact SV_b.resolve_left hs) j hj]
  exact cks_NV h.1 h.2.1 CO UN j hj
theorem kv_m (h : NdB lo hi ST cnt) (CO UN : Nat → Int32) (j : Nat) (hj : j < cnt) : (kcm lo hi ST cnt cnt (fl cnt 1 CO) UN).1 j = KV lo hi ST cnt j := by
  rw [← kco_kcm h.1 h.2.1 h.2.2.1 h.2.2.2 cnt (fl cnt 1 CO) UN UN]
  exact kco_KV h.1 h.2.1 (fun j hj => by rw [fl, if_pos hj]) j hj
theorem trm_B (h : NdB lo hi ST cnt) : ∀ CO UN, trm lo hi ST CO cnt 2001 (fl 10 0 UN) := fun _ UN => trm_all h.1 h.2.1 h.2.2.1 UN
end NDL
