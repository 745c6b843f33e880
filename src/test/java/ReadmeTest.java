/** The calls of README.md answer what it says. */
public final class ReadmeTest {
    private static final Check CHECK = new Check("ReadmeTest");

    public static void main(String[] args) {
        CHECK.each(ReadmeTest::example, ReadmeTest::script, ReadmeTest::scriptBuffer);
        CHECK.finish();
    }

    private static void example() {
        CrowMail mail = new CrowMail();
        int nest = mail.addNest(2, 0);
        mail.addCrow();
        int message = mail.publish(nest, 7);
        CHECK.same("33: foreseen", mail.minutesUntilDelivered(message), 3);
        CHECK.same("9: delivered", mail.advance(3), 1);
        CHECK.same("5: read", mail.read(nest), 0);
        CHECK.same("55: changes left", mail.undo(), 4);
        CHECK.same("27: delivered again", mail.status(message), 'd');
        CHECK.same("14: in the inbox", mail.inboxMessage(nest, 0), message);
    }

    private static void script() {
        CrowMail mail = new CrowMail();
        CHECK.same("52: commands", Mails.run(mail, "nest 2 0;crow;send 0 7;wait 3"), 4);
        CHECK.same("52: all of them took effect", mail.inboxSize(0), 1);
    }

    private static void scriptBuffer() {
        CrowMail mail = new CrowMail();
        Mails.type(mail, "nest 2 0;cow");
        CHECK.same("52: refused", Check.thrownBy(mail::runScript), "IllegalArgumentException");
        CHECK.same("53: where", mail.errorPosition(), 10);
        CHECK.same("51: an empty buffer", mail.type('c'), 1);
        Mails.type(mail, "row;read 0");
        CHECK.same("52: failed", Check.thrownBy(mail::runScript), "IllegalStateException");
        CHECK.same("54: which command", mail.failedCommand(), 1);
        CHECK.same("51: an empty buffer again", mail.type('c'), 1);
        CHECK.same("52: no crow", mail.crowCount(), 0);
    }
}
