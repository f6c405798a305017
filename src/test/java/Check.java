/** What the tests say of an answer. */
final class Check {
    private Check() {
    }

    static void same(String what, long due, long got) {
        if (due != got) {
            throw new AssertionError(what + " answered " + got + ", due is " + due);
        }
    }

    static void sameDouble(String what, double due, double got) {
        if (Double.doubleToLongBits(due) != Double.doubleToLongBits(got)) {
            throw new AssertionError(what + " answered " + got + ", due is " + due);
        }
    }

    static void isTrue(String what, boolean holds) {
        if (!holds) {
            throw new AssertionError(what);
        }
    }

    /** The call throws just this exception and changes nothing. */
    static void refuses(String what, Class<? extends RuntimeException> due, MarketSockets x, Runnable call) {
        long before = x.digest();
        Class<?> got = null;
        try {
            call.run();
        } catch (RuntimeException e) {
            got = e.getClass();
        }
        if (got != due) {
            throw new AssertionError(what + " threw " + got + ", due is " + due);
        }
        same("digest after " + what, before, x.digest());
    }

    static void refusesArgument(String what, MarketSockets x, Runnable call) {
        refuses(what, IllegalArgumentException.class, x, call);
    }

    static void refusesState(String what, MarketSockets x, Runnable call) {
        refuses(what, IllegalStateException.class, x, call);
    }

    static void refusesIndex(String what, MarketSockets x, Runnable call) {
        refuses(what, IndexOutOfBoundsException.class, x, call);
    }

    /** Appends a text to the buffer. */
    static void type(MarketSockets x, String text) {
        for (char sign : text.toCharArray()) {
            x.append(sign);
        }
    }

    /** Clears the buffer, types a plan and opens it. */
    static int open(MarketSockets x, String text) {
        x.clearBuffer();
        type(x, text);
        return x.open();
    }
}
