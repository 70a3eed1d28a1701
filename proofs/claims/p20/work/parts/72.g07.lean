set_option maxRecDepth 8000
theorem PQ_of {μ μ' : zM} {g pl : Int64} {f x : Int32} {y : Q4} (h0 : a_H μ) (h : CC (mGP (z_ui μ 50 16 x) g pl f) μ' false) (e : cOf (mGP (z_ui μ 50 16 x) g pl f) false = y) : PQ μ μ' y := by
  have H1 : a_H (z_ui μ 50 16 x) := a_H_ui h0 (bI_top _)
  refine ⟨a_Fz_tr (by decide +kernel) (a_Fz_tr (by decide +kernel) (a_Fz_ui (a_Fz_rf mdY μ) (by decide +kernel)) (Fz_mGP (md := mdY) (by decide +kernel) (by decide +kernel) (by decide +kernel))) h.1, a_H_C H1 h.1, ?_⟩
  have h2 : BS _ (bq (z_ui μ 50 16 x)) (bq μ') := h.2
  rw [bq_16] at h2
  rw [← e]
  exact h2
theorem AH_16 (μ : zM) (x : Int32) : AH (z_ui μ 50 16 x) μ := ⟨funext fun j => by rw [z_ui_rd, if_neg (by omega)], funext fun j => by rw [z_ui_rd, if_neg (by omega)], funext fun j => by rw [z_ui_rd, if_neg (by omega)], by rw [z_ui_rd, if_neg (by omega)], by rw [z_ui_rd, if_neg (by omega)], by rw [z_ui_rd, if_neg (by omega)], rfl⟩
theorem zh_X7_pairsWay : zH mi_X7_pairsWay zt_X7_pairsWay 79 7 1 := hh_X7_pairsWay
