/** Objects with which several tests begin. */
final class Mails {
    private Mails() {
    }

    static CrowMail with(int crows, int... distancesAndLosses) {
        CrowMail mail = new CrowMail();
        for (int i = 0; i + 1 < distancesAndLosses.length; i += 2) {
            mail.addNest(distancesAndLosses[i], distancesAndLosses[i + 1]);
        }
        for (int i = 0; i < crows; i++) {
            mail.addCrow();
        }
        return mail;
    }

    static void publish(CrowMail mail, int nest, int... keys) {
        for (int key : keys) {
            mail.publish(nest, key);
        }
    }

    static void type(CrowMail mail, String script) {
        for (int i = 0; i < script.length(); i++) {
            mail.type(script.charAt(i));
        }
    }

    static int run(CrowMail mail, String script) {
        type(mail, script);
        return mail.runScript();
    }
}
