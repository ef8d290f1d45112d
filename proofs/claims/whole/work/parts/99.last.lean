theorem zz_probe1 : True := trivial
