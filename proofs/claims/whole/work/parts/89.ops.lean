theorem op_table {μ : fm_I} {ν : fm_L} (h : Inv μ ν) (a0 : Int32) : pa_op (m_X5_table a0 μ ν) (fun μ ν => m_X6_table a0 μ ν) := by
  sorry
