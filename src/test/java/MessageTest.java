import java.util.NoSuchElementException;

/** Promises 22 to 33: what is told and predicted of messages. */
public final class MessageTest {
    private static final Class<?> STATE = IllegalStateException.class;
    private static final Class<?> ELEMENT = NoSuchElementException.class;
    private static final int[] FAR = {Integer.MAX_VALUE, Integer.MIN_VALUE};
    private static final Check CHECK = new Check("MessageTest");

    public static void main(String[] args) {
        CHECK.each(MessageTest::positions, MessageTest::facts, MessageTest::missingMessages, MessageTest::wouldBeLost,
            MessageTest::napLengths, MessageTest::predictions, MessageTest::predictionsOfLosses,
            MessageTest::lastMinuteOfPrediction, MessageTest::predictedEnds);
        CHECK.finish();
    }

    private static void positions() {
        CrowMail mail = Mails.with(0, 1, 0);
        CHECK.refused("23: none", mail, ELEMENT, () -> mail.messageAt(0));
        Mails.publish(mail, 0, 5, 6, 7, 8);
        CHECK.same("22: count", mail.messageCount(), 4);
        mail.cancel(1);
        CHECK.same("22: count after a cancelling", mail.messageCount(), 3);
        CHECK.same("23: position 0", mail.messageAt(0), 0);
        CHECK.same("23: position 1", mail.messageAt(1), 2);
        CHECK.same("23: position 2", mail.messageAt(2), 3);
        for (int position : new int[] {-1, 3, 16, FAR[0], FAR[1]}) {
            CHECK.refused("23: position", mail, ELEMENT, () -> mail.messageAt(position));
        }
        mail.publish(0, 9);
        CHECK.same("23: a new one is last", mail.messageAt(3), 4);
        CHECK.same("25: with its own key", mail.keyOf(4), 9);
        CHECK.same("25: the others keep theirs", mail.keyOf(2), 7);
    }

    private static void facts() {
        CrowMail mail = Mails.with(1, 1, 4, 2, 0);
        mail.publish(1, 99);
        mail.publish(0, 0);
        CHECK.same("24: nest 1", mail.nestOf(0), 1);
        CHECK.same("24: nest 0", mail.nestOf(1), 0);
        CHECK.same("25: key 99", mail.keyOf(0), 99);
        CHECK.same("25: key 0", mail.keyOf(1), 0);
        CHECK.same("26: none yet", mail.attempts(0), 0);
        CHECK.same("27: waiting", mail.status(0), 'w');
        mail.advance(1);
        CHECK.same("27: flying", mail.status(0), 'f');
        CHECK.same("27: still waiting", mail.status(1), 'w');
        CHECK.same("26: none in flight", mail.attempts(0), 0);
        mail.advance(2);
        CHECK.same("27: delivered", mail.status(0), 'd');
        CHECK.same("26: one", mail.attempts(0), 1);
        mail.advance(1);
        CHECK.same("27: napping", mail.status(1), 'n');
    }

    private static void missingMessages() {
        CrowMail mail = Mails.with(0, 1, 0);
        Mails.publish(mail, 0, 1, 2, 3);
        mail.cancel(1);
        for (int message : new int[] {-1, 1, 3, FAR[0], FAR[1]}) {
            CHECK.refused("24: nestOf", mail, ELEMENT, () -> mail.nestOf(message));
            CHECK.refused("25: keyOf", mail, ELEMENT, () -> mail.keyOf(message));
            CHECK.refused("26: attempts", mail, ELEMENT, () -> mail.attempts(message));
            CHECK.refused("27: status", mail, ELEMENT, () -> mail.status(message));
            CHECK.refused("28: napMinutes", mail, ELEMENT, () -> mail.napMinutes(message));
            CHECK.refused("30: wouldBeLost", mail, ELEMENT, () -> mail.wouldBeLost(message));
            CHECK.refused("33: prediction", mail, ELEMENT, () -> mail.minutesUntilDelivered(message));
        }
        CHECK.refused("28: waiting", mail, STATE, () -> mail.napMinutes(0));
    }

    private static void wouldBeLost() {
        for (int loss = 0; loss <= 4; loss++) {
            for (int force = 0; force <= 9; force++) {
                CrowMail mail = Mails.with(0, 1, loss);
                mail.setWind(force);
                for (int id = 0; id < 10; id++) {
                    mail.publish(0, id);
                    CHECK.same("30: waiting", mail.wouldBeLost(id), (id + 1 + force) % 5 < loss);
                }
            }
        }
        CrowMail mail = Mails.with(1, 2, 2);
        mail.publish(0, 1);
        mail.advance(1);
        CHECK.yes("30: flying", mail.wouldBeLost(0));
        mail.advance(2);
        CHECK.same("27: napping", mail.status(0), 'n');
        CHECK.no("30: napping, with the next attempt", mail.wouldBeLost(0));
        mail.setWind(4);
        CHECK.yes("30: with another wind", mail.wouldBeLost(0));
        mail.setWind(0);
        mail.advance(4);
        CHECK.same("27: delivered", mail.status(0), 'd');
        CHECK.refused("30: delivered", mail, STATE, () -> mail.wouldBeLost(0));
    }

    private static void napLengths() {
        CrowMail mail = new CrowMail();
        long due = 1;
        for (int attempts = 0; attempts <= 40; attempts++) {
            CHECK.same("31: " + attempts, mail.napLength(attempts), due);
            CHECK.same("32: " + attempts, mail.napLengthByDoubling(attempts), due);
            due *= 2;
        }
        for (int attempts : new int[] {-1, 41, 63, 64, FAR[0], FAR[1]}) {
            CHECK.refused("31: out of range", mail, IllegalArgumentException.class, () -> mail.napLength(attempts));
            CHECK.refused("32: out of range", mail, IllegalArgumentException.class,
                () -> mail.napLengthByDoubling(attempts));
        }
    }

    private static void predictions() {
        CrowMail mail = Mails.with(2, 3, 0, 2, 3);
        Mails.publish(mail, 0, 1, 2);
        Mails.publish(mail, 1, 3, 4);
        mail.advance(1);
        for (int minute = 0; minute < 40; minute++) {
            String before = Picture.of(mail);
            for (int position = 0; position < mail.messageCount(); position++) {
                predicted(mail, mail.messageAt(position));
            }
            CHECK.same("33: it changes nothing", Picture.of(mail), before);
            mail.advance(1);
            CHECK.same("33: the time goes on by itself", mail.time(), minute + 2);
        }
    }

    /** Asks for a prediction, sees it come true, and takes back the minutes. */
    private static void predicted(CrowMail mail, int message) {
        if (mail.status(message) == 'd') {
            CHECK.refused("33: delivered", mail, STATE, () -> mail.minutesUntilDelivered(message));
            return;
        }
        int minutes = mail.minutesUntilDelivered(message);
        if (minutes > 1) {
            mail.advance(minutes - 1);
            CHECK.no("33: not yet", mail.status(message) == 'd');
            mail.undo();
        }
        mail.advance(minutes);
        CHECK.same("33: then", mail.status(message), 'd');
        mail.undo();
    }

    /** Taken at minute 1; with distance 1, attempt k arrives at minute 2, 5, 10, 19 or 36. */
    private static void predictionsOfLosses() {
        int[] arrivals = {2, 5, 10, 19, 36};
        for (int loss = 0; loss <= 4; loss++) {
            for (int force = 0; force <= 4; force++) {
                CrowMail mail = Mails.with(1, 1, loss);
                mail.setWind(force);
                mail.publish(0, 1);
                int attempt = 1;
                while ((attempt + force) % 5 < loss) {
                    attempt++;
                }
                int due = arrivals[attempt - 1];
                CHECK.same("33: loss " + loss + ", force " + force, mail.minutesUntilDelivered(0), due);
                mail.advance(1);
                CHECK.same("33: in flight", mail.minutesUntilDelivered(0), due - 1);
            }
        }
    }

    /** With one crow and distance 9, the k-th message is delivered after 1 + 9 k minutes: the 11th after 100. */
    private static void lastMinuteOfPrediction() {
        CrowMail mail = Mails.with(1, 9, 0, 9, 0);
        Mails.publish(mail, 0, 0, 1, 2, 3, 4, 5, 6, 7);
        Mails.publish(mail, 1, 0, 1, 2, 3);
        for (int k = 1; k <= 11; k++) {
            CHECK.same("33: message " + k, mail.minutesUntilDelivered(k - 1), 1 + 9 * k);
        }
        CHECK.refused("33: after 109 minutes", mail, STATE, () -> mail.minutesUntilDelivered(11));
        mail.advance(9);
        CHECK.same("33: after 100 minutes now", mail.minutesUntilDelivered(11), 100);
    }

    private static void predictedEnds() {
        CrowMail mail = Mails.with(1, 1, 0);
        Mails.publish(mail, 0, 1, 1);
        CHECK.same("33: the first", mail.minutesUntilDelivered(0), 2);
        CHECK.refused("33: a duplicate", mail, STATE, () -> mail.minutesUntilDelivered(1));
        CrowMail idle = Mails.with(0, 1, 0);
        idle.publish(0, 1);
        CHECK.refused("33: no crows", idle, STATE, () -> idle.minutesUntilDelivered(0));
        CrowMail full = Mails.with(1, 1, 0);
        Mails.publish(full, 0, 0, 1, 2, 3, 4, 5, 6, 7, 8);
        CHECK.refused("33: it will fail", full, STATE, () -> full.minutesUntilDelivered(8));
    }
}
