/** Counts the answers of one test that are not the ones that are due, and prints each of them. */
final class Check {
    /** A call whose answer is thrown away. */
    interface Call {
        void run();
    }

    private int looked;
    private int wrong;
    private String part = "";

    /** Names what the next checks are about. */
    void part(String name) {
        part = name;
    }

    /** Names the sentence of the document to which the next checks hold the class. */
    void sentence(String where, String words) {
        part(where + ", \"" + words + "\"");
    }

    void same(String what, long due, long got) {
        looked++;
        if (due != got) {
            report(what + " answered " + got + ", due is " + due);
        }
    }

    void sameText(String what, String due, String got) {
        looked++;
        if (!due.equals(got)) {
            report(what + " is " + got + ", due is " + due);
        }
    }

    void holds(String what, boolean truth) {
        looked++;
        if (!truth) {
            report(what + " does not hold");
        }
    }

    void illegalArgument(String what, Call call) {
        thrown(what, IllegalArgumentException.class, call);
    }

    void illegalState(String what, Call call) {
        thrown(what, IllegalStateException.class, call);
    }

    void unsupported(String what, Call call) {
        thrown(what, UnsupportedOperationException.class, call);
    }

    void outOfBounds(String what, Call call) {
        thrown(what, IndexOutOfBoundsException.class, call);
    }

    void powerFails(String what, Call call) {
        thrown(what, ArithmeticException.class, call);
    }

    /** Thrown by a throw of the class itself: it may leave no exception to the library. */
    void thrown(String what, Class<? extends RuntimeException> due, Call call) {
        looked++;
        RuntimeException got = null;
        try {
            call.run();
        } catch (RuntimeException e) {
            got = e;
        }
        if (got == null) {
            report(what + " threw nothing, due is " + due.getName());
        } else if (got.getClass() != due) {
            report(what + " threw " + got.getClass().getName() + ", due is " + due.getName());
        } else if (!got.getStackTrace()[0].getClassName().startsWith("CashLink")) {
            report(what + " left it to the library to throw " + due.getName());
        }
    }

    private void report(String text) {
        wrong++;
        System.out.println(part + ": " + text);
    }

    void end() {
        System.out.println(looked + " checks, " + wrong + " wrong");
        if (wrong != 0) {
            System.exit(1);
        }
    }
}
