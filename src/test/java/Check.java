/** Counts what is not as due, and ends a test's main method with its exit code. */
final class Check {
    /** A call that may throw. */
    interface Call {
        void make();
    }

    private static int checks = 0;
    private static int wrong = 0;

    private Check() {
    }

    static void same(String what, long due, long got) {
        checks++;
        if (due != got) {
            wrong++;
            System.out.println(what + ": due is " + due + ", answered is " + got);
        }
    }

    static void sameShare(String what, double due, double got) {
        same(what, Double.doubleToRawLongBits(due), Double.doubleToRawLongBits(got));
    }

    static void fail(String what) {
        checks++;
        wrong++;
        System.out.println(what);
    }

    /** The call throws an exception of just this class, and changes nothing. */
    static void refused(String what, CandleRooms x, Class<?> due, Call call) {
        long before = x.digest();
        Class<?> got = null;
        try {
            call.make();
        } catch (RuntimeException e) {
            got = e.getClass();
        }
        checks++;
        if (got != due) {
            wrong++;
            System.out.println(what + ": due is " + due + ", thrown is " + got);
        }
        same(what + ", the digest behind the exception", before, x.digest());
    }

    static void noRoom(String what, CandleRooms x, Call call) {
        refused(what, x, IndexOutOfBoundsException.class, call);
    }

    static void badArgument(String what, CandleRooms x, Call call) {
        refused(what, x, IllegalArgumentException.class, call);
    }

    static void badState(String what, CandleRooms x, Call call) {
        refused(what, x, IllegalStateException.class, call);
    }

    static void type(CandleRooms x, String text) {
        for (int place = 0; place < text.length(); place++) {
            x.append(text.charAt(place));
        }
    }

    /** Types the deeds into an empty buffer and plays them. */
    static int play(CandleRooms x, String deeds) {
        x.clearBuffer();
        type(x, deeds);
        return x.play();
    }

    static void end(String name) {
        System.out.println(name + ": " + checks + " checks, " + wrong + " wrong");
        if (wrong > 0) {
            System.exit(1);
        }
    }
}
