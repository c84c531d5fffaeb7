theorem zz_wide : True := by have h := @FP.Core.fromInt_mag; trivial
