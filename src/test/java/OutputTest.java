import java.util.NoSuchElementException;

/** Promises 48 to 50: the output text. */
public final class OutputTest {
    private static final Class<?> INDEX = IndexOutOfBoundsException.class;
    private static final Check CHECK = new Check("OutputTest");

    public static void main(String[] args) {
        CHECK.each(OutputTest::messages, OutputTest::crows, OutputTest::characters);
        CHECK.finish();
    }

    private static void messages() {
        CrowMail mail = Mails.with(1, 1, 4);
        mail.publish(0, 5);
        rendered(mail, 0, "0>0k5a0w");
        mail.advance(1);
        rendered(mail, 0, "0>0k5a0f");
        mail.advance(1);
        rendered(mail, 0, "0>0k5a1n");
        for (int message : new int[] {-1, 1, Integer.MAX_VALUE, Integer.MIN_VALUE}) {
            CHECK.refused("48: no such message", mail, NoSuchElementException.class,
                () -> mail.renderMessage(message));
        }
        for (int id = 1; id <= 120; id++) {
            mail.publish(0, id % 100);
            rendered(mail, id, id + ">0k" + id % 100 + "a0w");
            mail.cancel(id);
        }
        CrowMail far = Mails.with(1, 1, 0, 1, 0);
        far.publish(1, 42);
        far.advance(2);
        rendered(far, 0, "0>1k42a1d");
    }

    private static void rendered(CrowMail mail, int message, String due) {
        CHECK.same("48: length", mail.renderMessage(message), due.length());
        CHECK.same("48: text", Picture.ofOutput(mail), due);
    }

    private static void crows() {
        CrowMail mail = Mails.with(0, 1, 0, 9, 0);
        crowsRendered(mail, "");
        for (int i = 0; i < 13; i++) {
            mail.publish(1, i);
        }
        for (int i = 0; i < 13; i++) {
            if (i != 3 && i != 12) {
                mail.cancel(i);
            }
        }
        mail.addCrow();
        crowsRendered(mail, ".");
        mail.advance(1);
        crowsRendered(mail, "3");
        mail.addCrow();
        mail.addCrow();
        mail.addCrow();
        crowsRendered(mail, "3...");
        mail.advance(1);
        crowsRendered(mail, "32..");
        mail.advance(8);
        crowsRendered(mail, ".2..");
        mail.renderMessage(3);
        mail.advance(1);
        crowsRendered(mail, "....");
    }

    private static void crowsRendered(CrowMail mail, String due) {
        CHECK.same("49: length", mail.renderCrows(), due.length());
        CHECK.same("49: text", Picture.ofOutput(mail), due);
    }

    private static void characters() {
        CrowMail mail = Mails.with(2, 1, 0);
        CHECK.refused("50: empty at first", mail, INDEX, () -> mail.outputAt(0));
        mail.renderCrows();
        CHECK.same("50: first", mail.outputAt(0), '.');
        CHECK.same("50: last", mail.outputAt(1), '.');
        for (int index : new int[] {-1, 2, Integer.MAX_VALUE, Integer.MIN_VALUE}) {
            CHECK.refused("50: no such index", mail, INDEX, () -> mail.outputAt(index));
        }
        mail.publish(0, 1);
        mail.save();
        mail.renderMessage(0);
        mail.undo();
        CHECK.same("50: undo leaves the text", Picture.ofOutput(mail), "0>0k1a0w");
        mail.restore();
        CHECK.same("50: restore leaves the text", Picture.ofOutput(mail), "0>0k1a0w");
        mail.renderCrows();
        CHECK.same("50: replaced", Picture.ofOutput(mail), "..");
    }
}
