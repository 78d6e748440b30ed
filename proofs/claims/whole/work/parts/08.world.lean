theorem pw_test : True := trivial
