theorem y_c_14 : b_chkC x_F x_T x_Z x_dep x_hn y_G y_L y_SC_14 600 y_C_14 = true := by decide +kernel
