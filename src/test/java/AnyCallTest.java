import java.util.LinkedHashMap;
import java.util.Map;

/** Calls in any order with any arguments: each throws only what its promise names, and then changes nothing. */
public final class AnyCallTest {
    private interface AnyCall {
        Object answer(CrowMail mail, int first, int second);
    }

    private static final String ARGUMENT = "IllegalArgumentException";
    private static final String STATE = "IllegalStateException";
    private static final String INDEX = "IndexOutOfBoundsException";
    private static final String ELEMENT = "NoSuchElementException";
    private static final String ARITHMETIC = "ArithmeticException";
    private static final int[] ARGUMENTS = {Integer.MIN_VALUE, -1, 0, 1, 2, 3, 4, 5, 6, 7, 8, 9, 10, 15, 16, 17, 40, 41,
        99, 100, 101, Integer.MAX_VALUE};
    private static final String[] SCRIPTS = {"", "wait", "wait 0", "crow;wait 9", "send 0 7;send 1 7;wait", "read 0",
        "nest 1 2", "nest 2 0;send 0 8;wait 30;read 0", "drop 3;wind 6", "wind 0;forget 0;wait 100", "send 0 100;",
        "forget 7", "wait;wait;wait;wait;wait;wait;wait;wait;wait;wait 100;read 5"};
    private static final Map<String, AnyCall> CALLS = new LinkedHashMap<>();
    private static final Check CHECK = new Check("AnyCallTest");
    private static int seed = 1;

    public static void main(String[] args) {
        changes();
        nestsAndCrows();
        messages();
        others();
        CHECK.each(AnyCallTest::anyCalls);
        CHECK.finish();
    }

    /** The exceptions that the promise names stand behind the name of the call. */
    private static void changes() {
        CALLS.put("addNest " + ARGUMENT + STATE, (mail, a, b) -> mail.addNest(a, b));
        CALLS.put("addNest, likely " + STATE, (mail, a, b) -> mail.addNest(1 + (a & 7), b & 3));
        CALLS.put("addCrow " + STATE, (mail, a, b) -> mail.addCrow());
        CALLS.put("publish " + INDEX + ARGUMENT + STATE, (mail, a, b) -> mail.publish(a, b));
        CALLS.put("publish, likely " + INDEX + STATE, (mail, a, b) -> mail.publish(a & 3, b & 7));
        CALLS.put("publish, likelier " + INDEX + STATE, (mail, a, b) -> mail.publish(a & 1, b & 63));
        CALLS.put("read " + INDEX + ELEMENT, (mail, a, b) -> mail.read(a));
        CALLS.put("cancel " + ELEMENT + STATE, (mail, a, b) -> mail.cancel(a));
        CALLS.put("setWind " + ARGUMENT, (mail, a, b) -> mail.setWind(a));
        CALLS.put("forget " + INDEX, (mail, a, b) -> mail.forget(a));
        CALLS.put("advance " + ARGUMENT, (mail, a, b) -> mail.advance(a));
        CALLS.put("advance, likely", (mail, a, b) -> mail.advance(1 + (a & 3)));
        CALLS.put("runScript " + ARGUMENT + STATE, (mail, a, b) -> Mails.run(mail, SCRIPTS[next() % SCRIPTS.length]));
        CALLS.put("undo " + ELEMENT, (mail, a, b) -> mail.undo());
        CALLS.put("save", (mail, a, b) -> mail.save());
        CALLS.put("restore " + STATE, (mail, a, b) -> a == 0 ? mail.restore() : 0);
    }

    private static void nestsAndCrows() {
        CALLS.put("distance " + INDEX, (mail, a, b) -> mail.distance(a));
        CALLS.put("loss " + INDEX, (mail, a, b) -> mail.loss(a));
        CALLS.put("inboxSize " + INDEX, (mail, a, b) -> mail.inboxSize(a));
        CALLS.put("inboxMessage " + INDEX + ELEMENT, (mail, a, b) -> mail.inboxMessage(a, b));
        CALLS.put("remembers " + INDEX, (mail, a, b) -> mail.remembers(a, b));
        CALLS.put("rememberedCount " + INDEX, (mail, a, b) -> mail.rememberedCount(a));
        CALLS.put("nestByDeliveries " + ELEMENT, (mail, a, b) -> mail.nestByDeliveries(a));
        CALLS.put("isFlying " + INDEX, (mail, a, b) -> mail.isFlying(a));
        CALLS.put("carriedMessage " + INDEX + ELEMENT, (mail, a, b) -> mail.carriedMessage(a));
        CALLS.put("flightMinutes " + INDEX, (mail, a, b) -> mail.flightMinutes(a));
    }

    private static void messages() {
        CALLS.put("messageAt " + ELEMENT, (mail, a, b) -> mail.messageAt(a));
        CALLS.put("nestOf " + ELEMENT, (mail, a, b) -> mail.nestOf(a));
        CALLS.put("keyOf " + ELEMENT, (mail, a, b) -> mail.keyOf(a));
        CALLS.put("attempts " + ELEMENT, (mail, a, b) -> mail.attempts(a));
        CALLS.put("status " + ELEMENT, (mail, a, b) -> mail.status(a));
        CALLS.put("napMinutes " + ELEMENT + STATE, (mail, a, b) -> mail.napMinutes(a));
        CALLS.put("waitingMessage " + ELEMENT, (mail, a, b) -> mail.waitingMessage(a));
        CALLS.put("wouldBeLost " + ELEMENT + STATE, (mail, a, b) -> mail.wouldBeLost(a));
        CALLS.put("napLength " + ARGUMENT, (mail, a, b) -> mail.napLength(a));
        CALLS.put("napLengthByDoubling " + ARGUMENT, (mail, a, b) -> mail.napLengthByDoubling(a));
        CALLS.put("minutesUntilDelivered " + ELEMENT + STATE, (mail, a, b) -> mail.minutesUntilDelivered(a));
    }

    private static void others() {
        CALLS.put("meanAttempts " + ARITHMETIC, (mail, a, b) -> mail.meanAttempts());
        CALLS.put("meanAttemptsBits " + ARITHMETIC, (mail, a, b) -> mail.meanAttemptsBits());
        CALLS.put("deliveryRate " + ARITHMETIC, (mail, a, b) -> mail.deliveryRate());
        CALLS.put("deliveryRateBits " + ARITHMETIC, (mail, a, b) -> mail.deliveryRateBits());
        CALLS.put("renderMessage " + ELEMENT, (mail, a, b) -> mail.renderMessage(a));
        CALLS.put("renderCrows", (mail, a, b) -> mail.renderCrows());
        CALLS.put("outputAt " + INDEX, (mail, a, b) -> mail.outputAt(a));
        CALLS.put("type " + ARGUMENT + STATE, (mail, a, b) -> mail.type((char) a));
        CALLS.put("errorPosition " + ELEMENT, (mail, a, b) -> mail.errorPosition());
        CALLS.put("failedCommand " + ELEMENT, (mail, a, b) -> mail.failedCommand());
    }

    private static void anyCalls() {
        CHECK.sentence("Exceptions: A method that throws an exception changes nothing");
        String[] names = CALLS.keySet().toArray(new String[0]);
        for (int run = 0; run < 60; run++) {
            CrowMail mail = new CrowMail();
            for (int call = 0; call < 300; call++) {
                tried(mail, names[next() % names.length], "run " + run + ", call " + call);
            }
        }
    }

    private static void tried(CrowMail mail, String name, String where) {
        int first = ARGUMENTS[next() % ARGUMENTS.length];
        int second = ARGUMENTS[next() % ARGUMENTS.length];
        String what = where + ", " + name + ", " + first + ", " + second;
        String before = Picture.of(mail);
        String answer = Check.thrownBy(() -> CALLS.get(name).answer(mail, first, second));
        if (!answer.startsWith("answered")) {
            CHECK.yes(what + ": throws " + answer, name.contains(answer));
            CHECK.same(what + ": is left", Picture.of(mail), before);
        }
        CHECK.yes(what + ": consistent", mail.isConsistent());
    }

    /** The same numbers in each run of the test, as its answers must not depend on chance. */
    private static int next() {
        seed = seed * 1103515245 + 12345;
        return seed >>> 16 & 0x7fff;
    }
}
