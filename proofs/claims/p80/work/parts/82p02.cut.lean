theorem y_c_2 : b_chkC x_F x_T x_Z x_dep x_hn y_G y_L y_SC_2 600 y_C_2 = true := by decide +kernel
