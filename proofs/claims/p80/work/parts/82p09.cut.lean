theorem y_c_9 : b_chkC x_F x_T x_Z x_dep x_hn y_G y_L y_SC_9 600 y_C_9 = true := by decide +kernel
