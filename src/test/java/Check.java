/** Counts the checks of one test and tells those that failed. */
final class Check {
    interface Call {
        Object answer();
    }

    private final String test;
    private String sentence = "";
    private int made = 0;
    private int madeBeforeSentence = 0;
    private int failed = 0;

    Check(String test) {
        this.test = test;
    }

    /** Runs each test by itself, so that one that breaks off does not keep the others from telling what they find. */
    void each(Runnable... tests) {
        for (Runnable test : tests) {
            try {
                test.run();
            } catch (RuntimeException e) {
                same("the test goes to its end", "broken off by " + nameOf(e), "to its end");
            }
            endSentence();
        }
    }

    /** The checks that follow are for this sentence of the document, told by its promise or term and its words. */
    void sentence(String words) {
        endSentence();
        sentence = words;
        madeBeforeSentence = made;
    }

    /** A sentence without a check would look as if it had been tested. */
    private void endSentence() {
        if (!sentence.isEmpty() && made == madeBeforeSentence) {
            failed++;
            System.out.println(test + ": \"" + sentence + "\" has no check");
        }
        sentence = "";
    }

    void same(String what, Object got, Object due) {
        made++;
        if (!due.equals(got)) {
            failed++;
            String where = sentence.isEmpty() ? test : test + ": \"" + sentence + "\"";
            String[] told = told(String.valueOf(got), due.toString());
            System.out.println(where + ": " + what + ": got " + told[0] + ", due is " + told[1]);
        }
    }

    /** Two texts, or what comes where they begin to differ if they are long. */
    private static String[] told(String got, String due) {
        if (got.length() + due.length() < 400) {
            return new String[] {got, due};
        }
        int same = 0;
        while (same < got.length() && same < due.length() && got.charAt(same) == due.charAt(same)) {
            same++;
        }
        int from = Math.max(0, same - 40);
        return new String[] {"..." + got.substring(from, Math.min(got.length(), same + 40)) + "...",
            "..." + due.substring(from, Math.min(due.length(), same + 40)) + "..."};
    }

    void yes(String what, boolean got) {
        same(what, got, true);
    }

    void no(String what, boolean got) {
        same(what, got, false);
    }

    /** The call throws exactly this exception, the program throws it itself, and nothing has changed. */
    void refused(String what, CrowMail mail, Class<?> due, Call call) {
        String before = Picture.of(mail) + Picture.ofOutput(mail) + Picture.ofScripts(mail);
        same(what, thrownBy(call), due.getSimpleName());
        same(what + ", what is left", Picture.of(mail) + Picture.ofOutput(mail) + Picture.ofScripts(mail), before);
    }

    static String thrownBy(Call call) {
        try {
            return "answered " + call.answer();
        } catch (RuntimeException e) {
            return nameOf(e);
        }
    }

    /** An exception of the Java machine bears another name here than one that the program throws. */
    static String nameOf(Throwable e) {
        boolean ofProgram = e.getStackTrace()[0].getClassName().startsWith("CrowMail");
        boolean ofMachine = !ofProgram || "/ by zero".equals(e.getMessage());
        return (ofMachine ? "the machine's " : "") + e.getClass().getSimpleName();
    }

    void finish() {
        System.out.println(test + ": " + (made - failed) + " checks held, " + failed + " did not");
        if (failed > 0 || made == 0) {
            System.exit(1);
        }
    }
}
