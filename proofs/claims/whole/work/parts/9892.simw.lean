theorem zz_9892_simw : True := trivial
