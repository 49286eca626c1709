import java.util.Objects;

/** What the tests tell by: each due answer that is not given is printed, and ends the test with exit code 1. */
final class Check {
    private static int right = 0;
    private static int wrong = 0;
    private static String heading = "";

    private Check() {
    }

    /** What stands ahead of each fault that is told from here on. */
    static void heading(String words) {
        heading = words;
    }

    static int made() {
        return right + wrong;
    }

    static void equal(String what, Object due, Object got) {
        if (Objects.equals(due, got)) {
            right++;
        } else {
            wrong++;
            System.out.println(heading + what + " answered " + got + ", due is " + due);
        }
    }

    static void equal(String what, long due, long got) {
        equal(what, Long.valueOf(due), Long.valueOf(got));
    }

    static void isTrue(String what, boolean holds) {
        equal(what, Boolean.TRUE, Boolean.valueOf(holds));
    }

    /** The call throws just this kind of exception, none below it, and changes nothing. */
    static void thrown(String what, RingThreads ring, Class<? extends RuntimeException> kind, Runnable call) {
        long before = ring.digest();
        Class<?> got = null;
        try {
            call.run();
        } catch (RuntimeException e) {
            got = e.getClass();
        }
        equal(what + " throws", kind, got);
        equal(what + " changes nothing: the digest", before, ring.digest());
    }

    static void outside(String what, RingThreads ring, Runnable call) {
        thrown(what, ring, IndexOutOfBoundsException.class, call);
    }

    static void argument(String what, RingThreads ring, Runnable call) {
        thrown(what, ring, IllegalArgumentException.class, call);
    }

    static void state(String what, RingThreads ring, Runnable call) {
        thrown(what, ring, IllegalStateException.class, call);
    }

    static void type(RingThreads ring, String text) {
        for (int i = 0; i < text.length(); i++) {
            ring.append(text.charAt(i));
        }
    }

    static int load(RingThreads ring, String text) {
        type(ring, text);
        return ring.load();
    }

    static void end() {
        System.out.println("     " + right + " answers as due, " + wrong + " not");
        if (wrong > 0 || right == 0) {
            System.exit(1);
        }
    }
}
