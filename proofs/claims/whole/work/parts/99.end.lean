theorem zz_99_end : True := trivial
