theorem zz_9891_simq : True := trivial
