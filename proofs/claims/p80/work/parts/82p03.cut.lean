theorem y_c_3 : b_chkC x_F x_T x_Z x_dep x_hn y_G y_L y_SC_3 600 y_C_3 = true := by decide +kernel
