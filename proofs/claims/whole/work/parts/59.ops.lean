theorem op_row {μ : fm_I} {ν : fm_L} (h : Inv μ ν) (a0 : Int32) (a1 : Int32) (a2 : Int32) : pa_op (m_X5_row a0 a1 a2 μ ν) (fun μ ν => m_X6_row a0 a1 a2 μ ν) := by
  sorry
theorem op_set {μ : fm_I} {ν : fm_L} (h : Inv μ ν) (a0 : Int32) (a1 : Int32) (a2 : Int64) : pa_op (m_X5_set a0 a1 a2 μ ν) (fun μ ν => m_X6_set a0 a1 a2 μ ν) := by
  sorry
theorem op_copy {μ : fm_I} {ν : fm_L} (h : Inv μ ν) (a0 : Int32) (a1 : Int32) (a2 : Int32) (a3 : Int32) (a4 : Int32) : pa_op (m_X5_copy a0 a1 a2 a3 a4 μ ν) (fun μ ν => m_X6_copy a0 a1 a2 a3 a4 μ ν) := by
  sorry
theorem op_element {μ : fm_I} {ν : fm_L} (h : Inv μ ν) (a0 : Int32) (a1 : Int32) : pa_op (pa_ro (m_X5_element a0 a1 μ ν) μ ν) (fun μ ν => pa_ro (m_X6_element a0 a1 μ ν) μ ν) := by
  sorry
theorem op_show {μ : fm_I} {ν : fm_L} (h : Inv μ ν) (a0 : Int32) (a1 : Int32) : pa_op (m_X5_show a0 a1 μ ν) (fun μ ν => m_X6_show a0 a1 μ ν) := by
  sorry
theorem op_holds {μ : fm_I} {ν : fm_L} (h : Inv μ ν) (a0 : Int32) : pa_op (pa_ro (m_X5_holds a0 μ ν) μ ν) (fun μ ν => pa_ro (m_X6_holds a0 μ ν) μ ν) := by
  sorry
theorem op_says {μ : fm_I} {ν : fm_L} (h : Inv μ ν) (a0 : Int32) (a1 : Int32) : pa_op (m_X5_says a0 a1 μ ν) (fun μ ν => m_X6_says a0 a1 μ ν) := by
  sorry
theorem op_band {μ : fm_I} {ν : fm_L} (h : Inv μ ν) (a0 : Int32) (a1 : Int32) (a2 : Int32) (a3 : Int32) (a4 : Int32) : pa_op (m_X5_band a0 a1 a2 a3 a4 μ ν) (fun μ ν => m_X6_band a0 a1 a2 a3 a4 μ ν) := by
  sorry
theorem op_bandOf {μ : fm_I} {ν : fm_L} (h : Inv μ ν) (a0 : Int32) (a1 : Int32) : pa_op (m_X5_bandOf a0 a1 μ ν) (fun μ ν => m_X6_bandOf a0 a1 μ ν) := by
  sorry
theorem op_twist {μ : fm_I} {ν : fm_L} (h : Inv μ ν) (a0 : Int32) (a1 : Int32) : pa_op (m_X5_twist a0 a1 μ ν) (fun μ ν => m_X6_twist a0 a1 μ ν) := by
  sorry
theorem op_turn {μ : fm_I} {ν : fm_L} (h : Inv μ ν) (a0 : Int32) : pa_op (m_X5_turn a0 μ ν) (fun μ ν => m_X6_turn a0 μ ν) := by
  sorry
theorem op_paint {μ : fm_I} {ν : fm_L} (h : Inv μ ν) (a0 : Int32) (a1 : Int32) (a2 : Int32) : pa_op (m_X5_paint a0 a1 a2 μ ν) (fun μ ν => m_X6_paint a0 a1 a2 μ ν) := by
  sorry
theorem op_table {μ : fm_I} {ν : fm_L} (h : Inv μ ν) (a0 : Int32) : pa_op (m_X5_table a0 μ ν) (fun μ ν => m_X6_table a0 μ ν) := by
  sorry
theorem op_fault {μ : fm_I} {ν : fm_L} (h : Inv μ ν)  : pa_op (pa_ro (m_X5_fault  μ ν) μ ν) (fun μ ν => pa_ro (m_X6_fault  μ ν) μ ν) := by
  sorry
theorem op_on {μ : fm_I} {ν : fm_L} (h : Inv μ ν) (a0 : Int32) (a1 : Int32) : pa_op (m_X5_on a0 a1 μ ν) (fun μ ν => m_X6_on a0 a1 μ ν) := by
  sorry
theorem op_pieces {μ : fm_I} {ν : fm_L} (h : Inv μ ν) (a0 : Int32) : pa_op (m_X5_pieces a0 μ ν) (fun μ ν => m_X6_pieces a0 μ ν) := by
  sorry
theorem op_pieceOf {μ : fm_I} {ν : fm_L} (h : Inv μ ν) (a0 : Int32) (a1 : Int32) (a2 : Int32) : pa_op (m_X5_pieceOf a0 a1 a2 μ ν) (fun μ ν => m_X6_pieceOf a0 a1 a2 μ ν) := by
  sorry
theorem op_pieceAt {μ : fm_I} {ν : fm_L} (h : Inv μ ν) (a0 : Int32) (a1 : Int32) : pa_op (m_X5_pieceAt a0 a1 μ ν) (fun μ ν => m_X6_pieceAt a0 a1 μ ν) := by
  sorry
theorem op_crossings {μ : fm_I} {ν : fm_L} (h : Inv μ ν) (a0 : Int32) (a1 : Int32) (a2 : Int32) : pa_op (m_X5_crossings a0 a1 a2 μ ν) (fun μ ν => m_X6_crossings a0 a1 a2 μ ν) := by
  sorry
theorem op_hooks {μ : fm_I} {ν : fm_L} (h : Inv μ ν) (a0 : Int32) (a1 : Int32) (a2 : Int32) : pa_op (m_X5_hooks a0 a1 a2 μ ν) (fun μ ν => m_X6_hooks a0 a1 a2 μ ν) := by
  sorry
theorem op_allHooks {μ : fm_I} {ν : fm_L} (h : Inv μ ν) (a0 : Int32) : pa_op (m_X5_allHooks a0 μ ν) (fun μ ν => m_X6_allHooks a0 μ ν) := by
  sorry
theorem op_groups {μ : fm_I} {ν : fm_L} (h : Inv μ ν) (a0 : Int32) : pa_op (m_X5_groups a0 μ ν) (fun μ ν => m_X6_groups a0 μ ν) := by
  sorry
theorem op_unhook {μ : fm_I} {ν : fm_L} (h : Inv μ ν) (a0 : Int32) : pa_op (m_X5_unhook a0 μ ν) (fun μ ν => m_X6_unhook a0 μ ν) := by
  sorry
theorem op_painted {μ : fm_I} {ν : fm_L} (h : Inv μ ν) (a0 : Int32) : pa_op (m_X5_painted a0 μ ν) (fun μ ν => m_X6_painted a0 μ ν) := by
  sorry
theorem op_repaint {μ : fm_I} {ν : fm_L} (h : Inv μ ν) (a0 : Int32) : pa_op (m_X5_repaint a0 μ ν) (fun μ ν => m_X6_repaint a0 μ ν) := by
  sorry
theorem op_worn {μ : fm_I} {ν : fm_L} (h : Inv μ ν) (a0 : Int32) : pa_op (m_X5_worn a0 μ ν) (fun μ ν => m_X6_worn a0 μ ν) := by
  sorry
theorem op_law {μ : fm_I} {ν : fm_L} (h : Inv μ ν) (a0 : Int32) (a1 : Int32) (a2 : Int32) : pa_op (m_X5_law a0 a1 a2 μ ν) (fun μ ν => m_X6_law a0 a1 a2 μ ν) := by
  sorry
theorem op_judge {μ : fm_I} {ν : fm_L} (h : Inv μ ν) (a0 : Int32) (a1 : Int32) (a2 : Int32) : pa_op (m_X5_judge a0 a1 a2 μ ν) (fun μ ν => m_X6_judge a0 a1 a2 μ ν) := by
  sorry
theorem op_fits {μ : fm_I} {ν : fm_L} (h : Inv μ ν) (a0 : Int32) (a1 : Int32) (a2 : Int32) : pa_op (m_X5_fits a0 a1 a2 μ ν) (fun μ ν => m_X6_fits a0 a1 a2 μ ν) := by
  sorry
theorem op_make {μ : fm_I} {ν : fm_L} (h : Inv μ ν) (a0 : Int32) (a1 : Int32) : pa_op (m_X5_make a0 a1 μ ν) (fun μ ν => m_X6_make a0 a1 μ ν) := by
  sorry
theorem op_leastTwist {μ : fm_I} {ν : fm_L} (h : Inv μ ν) (a0 : Int32) (a1 : Int32) : pa_op (m_X5_leastTwist a0 a1 μ ν) (fun μ ν => m_X6_leastTwist a0 a1 μ ν) := by
  sorry
theorem op_most {μ : fm_I} {ν : fm_L} (h : Inv μ ν) (a0 : Int32) : pa_op (m_X5_most a0 μ ν) (fun μ ν => m_X6_most a0 μ ν) := by
  sorry
theorem op_cross {μ : fm_I} {ν : fm_L} (h : Inv μ ν) (a0 : Int32) (a1 : Int32) (a2 : Int32) : pa_op (m_X5_cross a0 a1 a2 μ ν) (fun μ ν => m_X6_cross a0 a1 a2 μ ν) := by
  sorry
theorem op_cut {μ : fm_I} {ν : fm_L} (h : Inv μ ν) (a0 : Int32) (a1 : Int32) : pa_op (m_X5_cut a0 a1 μ ν) (fun μ ν => m_X6_cut a0 a1 μ ν) := by
  sorry
theorem op_draws {μ : fm_I} {ν : fm_L} (h : Inv μ ν) (a0 : Int32) : pa_op (m_X5_draws a0 μ ν) (fun μ ν => m_X6_draws a0 μ ν) := by
  sorry
theorem op_goes {μ : fm_I} {ν : fm_L} (h : Inv μ ν)  : pa_op (m_X5_goes  μ ν) (fun μ ν => m_X6_goes  μ ν) := by
  sorry
theorem op_seed {μ : fm_I} {ν : fm_L} (h : Inv μ ν) (a0 : Int32) : pa_op (m_X5_seed a0 μ ν) (fun μ ν => m_X6_seed a0 μ ν) := by
  sorry
theorem op_act {μ : fm_I} {ν : fm_L} (h : Inv μ ν) (a0 : Int32) (a1 : Int32) (a2 : Int32) : pa_op (m_X5_act a0 a1 a2 μ ν) (fun μ ν => m_X6_act a0 a1 a2 μ ν) := by
  sorry
theorem op_trace {μ : fm_I} {ν : fm_L} (h : Inv μ ν) (a0 : Int32) : pa_op (pa_ro (m_X5_trace a0 μ ν) μ ν) (fun μ ν => pa_ro (m_X6_trace a0 μ ν) μ ν) := by
  sorry
theorem op_image {μ : fm_I} {ν : fm_L} (h : Inv μ ν)  : pa_op (m_X5_image  μ ν) (fun μ ν => m_X6_image  μ ν) := by
  sorry
theorem op_restore {μ : fm_I} {ν : fm_L} (h : Inv μ ν)  : pa_op (m_X5_restore  μ ν) (fun μ ν => m_X6_restore  μ ν) := by
  sorry
theorem op_status {μ : fm_I} {ν : fm_L} (h : Inv μ ν) (a0 : Int32) : pa_op (m_X5_status a0 μ ν) (fun μ ν => m_X6_status a0 μ ν) := by
  sorry
