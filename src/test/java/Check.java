/** Counts and prints the calls whose answer is not the one that is due. */
final class Check {
    interface Order {
        void carryOut();
    }

    private int wrong;
    private String subject = "";

    /** What stands in front of all that is printed from now on. */
    void about(String newSubject) {
        subject = newSubject;
    }

    void same(String what, long got, long due) {
        if (got != due) {
            tell(what + ": " + got + ", due is " + due);
        }
    }

    // Spaces are there for the reader alone.
    void text(String what, String got, String due) {
        if (!got.replace(" ", "").equals(due.replace(" ", ""))) {
            tell(what + ": " + got + ", due is " + due);
        }
    }

    void yes(String what, boolean got) {
        same(what, got ? 1 : 0, 1);
    }

    void no(String what, boolean got) {
        same(what, got ? 1 : 0, 0);
    }

    void badArgument(String what, Order order) {
        outcome(what, order, "IllegalArgumentException");
    }

    void badState(String what, Order order) {
        outcome(what, order, "IllegalStateException");
    }

    private void outcome(String what, Order order, String due) {
        String got = "nothing";
        try {
            order.carryOut();
        } catch (RuntimeException e) {
            got = e.getClass().getSimpleName();
        }
        if (!got.equals(due)) {
            tell(what + " throws " + got + ", due is " + due);
        }
    }

    void tell(String text) {
        wrong++;
        System.out.println(subject + text);
    }

    void end() {
        if (wrong != 0) {
            System.out.println(wrong + " answers are not as due");
            System.exit(1);
        }
    }
}
