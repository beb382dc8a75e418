/** What the tests have in common: answers that are due, and exceptions that are due. */
final class Check {
    private static int asked = 0;
    private static int wrong = 0;

    private Check() {
    }

    static void due(String call, long got, long want) {
        asked++;
        if (got != want) {
            wrong(call + " answered " + got + ", due is " + want);
        }
    }

    static void due(String call, double got, double want) {
        asked++;
        if (got != want) {
            wrong(call + " answered " + got + ", due is " + want);
        }
    }

    static void holds(String what, boolean so) {
        asked++;
        if (!so) {
            wrong(what);
        }
    }

    /** The call must throw exactly this class, and change nothing that the digest tells. */
    static void thrown(SevenAsks x, String call, Class<?> want, Runnable body) {
        asked++;
        long before = x.digest();
        String got = outcome(body);
        if (!got.equals("throws." + want.getSimpleName())) {
            wrong(call + " " + got + ", due is throws." + want.getSimpleName());
        }
        if (x.digest() != before) {
            wrong(call + " changed the state, though it threw");
        }
    }

    /** The calls must change nothing that the digest tells. */
    static void unchanged(SevenAsks x, String call, Runnable body) {
        asked++;
        long before = x.digest();
        body.run();
        if (x.digest() != before) {
            wrong(call + " changed the state");
        }
    }

    private static String outcome(Runnable body) {
        try {
            body.run();
            return "threw nothing";
        } catch (RuntimeException e) {
            return "throws." + e.getClass().getSimpleName();
        }
    }

    private static void wrong(String message) {
        wrong++;
        if (wrong <= 40) {
            System.out.println(message);
        }
    }

    /** Ends a test's main method. */
    static void end() {
        System.out.println(wrong + " of " + asked + " are not as due");
        if (wrong != 0 || asked == 0) {
            System.exit(1);
        }
    }

    // ---- ways to bring an object to a state

    static void append(SevenAsks x, String text) {
        for (int i = 0; i < text.length(); i++) {
            x.append(text.charAt(i));
        }
    }

    static int run(SevenAsks x, String text) {
        x.clearBuffer();
        append(x, text);
        return x.run();
    }

    static void pass(SevenAsks x, int hours) {
        for (int i = 0; i < hours; i++) {
            x.pass();
        }
    }

    /** Refuses the lodger for too little need, as often as told; the setting is 3 again then. */
    static void refuse(SevenAsks x, int lodger, int times) {
        int need = x.lodgerOf(lodger, 0);
        x.need(lodger, 0);
        for (int i = 0; i < times; i++) {
            due("a refusal of lodger " + lodger, x.ask(lodger, 11, 1), 3);
        }
        x.need(lodger, need);
    }

    /** The bed's holders of all hours, a free hour as a dot. */
    static String bed(SevenAsks x, int bed) {
        StringBuilder line = new StringBuilder();
        for (int hour = 0; hour < 12; hour++) {
            int lodger = x.at(bed, hour);
            line.append(lodger == SevenAsks.NONE ? '.' : (char) ('0' + lodger));
        }
        return line.toString();
    }

    static void bedDue(SevenAsks x, int bed, String want) {
        String got = bed(x, bed);
        holds("bed " + bed + " is " + got + ", due is " + want, got.equals(want));
    }
}
