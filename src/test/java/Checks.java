/** Counts and prints the answers that are not due; shared by all tests of the project. */
final class Checks {
    private int right = 0;
    private int wrong = 0;

    void same(String what, long got, long due) {
        note(got == due, what + " answered " + got + ", due is " + due);
    }

    void same(String what, double got, double due) {
        note(got == due, what + " answered " + got + ", due is " + due);
    }

    void yes(String what, boolean got) {
        note(got, what + " answered false, due is true");
    }

    void no(String what, boolean got) {
        note(!got, what + " answered true, due is false");
    }

    /** The call is to throw an exception of just this class. */
    void refuses(String what, Class<? extends RuntimeException> due, Runnable call) {
        String got = "nothing";
        try {
            call.run();
        } catch (RuntimeException e) {
            got = e.getClass().getName();
        }
        note(got.equals(due.getName()), what + " threw " + got + ", due is " + due.getName());
    }

    private void note(boolean isRight, String complaint) {
        if (isRight) {
            right++;
        } else {
            wrong++;
            System.out.println(complaint);
        }
    }

    void end() {
        System.out.println(right + " answers as due, " + wrong + " not");
        if (wrong > 0 || right == 0) {
            System.exit(1);
        }
    }
}
