/** Objects with which several tests begin. */
final class Mails {
    private Mails() {
    }

    static CrowMail with(int crows, int... distancesAndLosses) {
        CrowMail mail = new CrowMail();
        for (int i = 0; i + 1 < distancesAndLosses.length; i += 2) {
            mail.addNest(distancesAndLosses[i], distancesAndLosses[i + 1]);
        }
        for (int i = 0; i < crows; i++) {
            mail.addCrow();
        }
        return mail;
    }

    /** Message 0 is delivered, 1 naps for 2 minutes more, 2 flies for 9 minutes more, 3 waits. */
    static CrowMail inEveryStatus() {
        CrowMail mail = with(1, 1, 0, 1, 4, 9, 0);
        mail.publish(0, 10);
        mail.publish(1, 11);
        mail.publish(2, 12);
        mail.publish(2, 13);
        mail.advance(3);
        return mail;
    }

    /** As many nests, crows and messages as there may be; all messages wait. */
    static CrowMail full() {
        CrowMail mail = with(4, 1, 0, 1, 0, 1, 0, 1, 0, 1, 0, 1, 0);
        for (int key = 0; key < 16; key++) {
            mail.publish(0, key);
        }
        return mail;
    }

    /** Nest 0, of distance 1 and loss 0, with the messages and keys 0 to count - 1 in its inbox, and one crow. */
    static CrowMail delivered(int count) {
        CrowMail mail = with(1, 1, 0);
        for (int key = 0; key < count; key++) {
            mail.publish(0, key);
            mail.advance(2);
        }
        return mail;
    }

    /** Numbers that are too small or too large for a range. */
    static int[] outside(int low, int high) {
        return new int[] {Integer.MIN_VALUE, low - 1, high + 1, Integer.MAX_VALUE};
    }

    static void publish(CrowMail mail, int nest, int... keys) {
        for (int key : keys) {
            mail.publish(nest, key);
        }
    }

    static void type(CrowMail mail, String script) {
        for (int i = 0; i < script.length(); i++) {
            mail.type(script.charAt(i));
        }
    }

    static int run(CrowMail mail, String script) {
        type(mail, script);
        return mail.runScript();
    }
}
