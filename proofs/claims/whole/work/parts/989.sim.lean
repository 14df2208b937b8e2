theorem zz_989_sim : True := trivial
