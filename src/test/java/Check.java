/** Counts the checks of one test and tells those that failed. */
final class Check {
    interface Call {
        Object answer();
    }

    private final String test;
    private int made = 0;
    private int failed = 0;

    Check(String test) {
        this.test = test;
    }

    void same(String what, Object got, Object due) {
        made++;
        if (!due.equals(got)) {
            failed++;
            System.out.println(test + ": " + what + ": got " + got + ", due is " + due);
        }
    }

    void yes(String what, boolean got) {
        same(what, got, true);
    }

    void no(String what, boolean got) {
        same(what, got, false);
    }

    /** The call throws exactly this exception, the program throws it itself, and nothing has changed. */
    void refused(String what, CrowMail mail, Class<?> due, Call call) {
        String before = Picture.of(mail) + Picture.ofOutput(mail) + Picture.ofScripts(mail);
        same(what, thrownBy(call), due.getSimpleName());
        same(what + ", what is left", Picture.of(mail) + Picture.ofOutput(mail) + Picture.ofScripts(mail), before);
    }

    static String thrownBy(Call call) {
        try {
            return "answered " + call.answer();
        } catch (RuntimeException e) {
            return nameOf(e);
        }
    }

    /** An exception of the Java machine bears another name here than one that the program throws. */
    static String nameOf(Throwable e) {
        boolean ofProgram = e.getStackTrace()[0].getClassName().startsWith("CrowMail");
        boolean ofMachine = !ofProgram || "/ by zero".equals(e.getMessage());
        return (ofMachine ? "the machine's " : "") + e.getClass().getSimpleName();
    }

    void finish() {
        System.out.println(test + ": " + (made - failed) + " checks held, " + failed + " did not");
        if (failed > 0 || made == 0) {
            System.exit(1);
        }
    }
}
