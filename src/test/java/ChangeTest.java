import java.util.NoSuchElementException;

/** Promises 4 to 7 and 9: publishing, reading, cancelling, the wind and the minutes. */
public final class ChangeTest {
    private static final Class<?> ARGUMENT = IllegalArgumentException.class;
    private static final Class<?> STATE = IllegalStateException.class;
    private static final Class<?> INDEX = IndexOutOfBoundsException.class;
    private static final Class<?> ELEMENT = NoSuchElementException.class;
    private static final int[] FAR = {Integer.MAX_VALUE, Integer.MIN_VALUE};
    private static final Check CHECK = new Check("ChangeTest");

    public static void main(String[] args) {
        CHECK.each(ChangeTest::publishing, ChangeTest::refusedPublishing, ChangeTest::reading, ChangeTest::cancelling,
            ChangeTest::refusedCancelling, ChangeTest::windForces, ChangeTest::advancing, ChangeTest::arrivals,
            ChangeTest::duplicates, ChangeTest::fullInbox, ChangeTest::naps, ChangeTest::napLengths,
            ChangeTest::waitingOrder);
        CHECK.finish();
    }

    private static void publishing() {
        CrowMail mail = Mails.with(0, 1, 0, 2, 0);
        CHECK.same("4: first id", mail.publish(1, 99), 0);
        CHECK.same("4: second id", mail.publish(0, 0), 1);
        mail.cancel(1);
        CHECK.same("4: the id of a cancelled message is not used again", mail.publish(0, 0), 2);
        CHECK.same("4: state", Picture.of(mail), "time 0 wind 0 totals 3 0 0 0 0 0 2"
            + "\nnest 0 1 0 ranked 0 inbox knows 0:\nnest 1 2 0 ranked 1 inbox knows 0:"
            + "\nmessage 0 1 99 0 w\nmessage 2 0 0 0 w\n");
    }

    private static void refusedPublishing() {
        CrowMail mail = Mails.with(0, 1, 0);
        for (int key : new int[] {-1, 100, FAR[0], FAR[1]}) {
            CHECK.refused("4: key", mail, ARGUMENT, () -> mail.publish(0, key));
        }
        for (int nest : new int[] {-1, 1, FAR[0], FAR[1]}) {
            CHECK.refused("4: nest", mail, INDEX, () -> mail.publish(nest, 0));
            CHECK.refused("4: nest and key", mail, INDEX, () -> mail.publish(nest, 100));
        }
        for (int i = 0; i < 16; i++) {
            CHECK.same("4: sixteen messages", mail.publish(0, i), i);
        }
        CHECK.refused("4: seventeenth", mail, STATE, () -> mail.publish(0, 50));
        CHECK.refused("4: seventeenth, key", mail, ARGUMENT, () -> mail.publish(0, 100));
        CHECK.refused("4: seventeenth, nest", mail, INDEX, () -> mail.publish(1, 50));
        mail.cancel(3);
        CHECK.same("4: room again, and a refused one took no id", mail.publish(0, 50), 16);
    }

    private static void reading() {
        CrowMail mail = Mails.with(2, 1, 0, 1, 0);
        for (int nest : new int[] {-1, 2, FAR[0], FAR[1]}) {
            CHECK.refused("5: nest", mail, INDEX, () -> mail.read(nest));
        }
        CHECK.refused("5: empty inbox", mail, ELEMENT, () -> mail.read(0));
        mail.publish(0, 1);
        CHECK.refused("5: not delivered yet", mail, ELEMENT, () -> mail.read(0));
        Mails.publish(mail, 0, 2, 3);
        mail.advance(5);
        CHECK.refused("5: other nest", mail, ELEMENT, () -> mail.read(1));
        for (int i = 0; i < 3; i++) {
            CHECK.same("5: in the order of arrival", mail.read(0), i);
            int read = i;
            CHECK.refused("5: it has ceased to exist", mail, ELEMENT, () -> mail.status(read));
            CHECK.same("38: read", mail.readTotal(), i + 1);
        }
        CHECK.refused("5: all are read", mail, ELEMENT, () -> mail.read(0));
    }

    private static void cancelling() {
        CrowMail mail = Mails.with(0, 1, 4);
        Mails.publish(mail, 0, 1, 2, 3);
        CHECK.same("6: two are left", mail.cancel(1), 2);
        CHECK.same("23: the others move up", mail.messageAt(1), 2);
        CHECK.same("6: one is left", mail.cancel(2), 1);
        mail.addCrow();
        mail.advance(2);
        CHECK.same("27: napping", mail.status(0), 'n');
        CHECK.same("6: napping", mail.cancel(0), 0);
        CHECK.same("36: published", mail.publishedTotal(), 3);
    }

    private static void refusedCancelling() {
        CrowMail mail = Mails.with(1, 2, 0);
        Mails.publish(mail, 0, 1, 2);
        mail.advance(3);
        CHECK.same("27: delivered", mail.status(0), 'd');
        CHECK.same("27: flying", mail.status(1), 'f');
        CHECK.refused("6: delivered", mail, STATE, () -> mail.cancel(0));
        CHECK.refused("6: flying", mail, STATE, () -> mail.cancel(1));
        for (int message : new int[] {-1, 2, FAR[0], FAR[1]}) {
            CHECK.refused("6: no such message", mail, ELEMENT, () -> mail.cancel(message));
        }
    }

    private static void windForces() {
        CrowMail mail = new CrowMail();
        CHECK.same("35: at first", mail.wind(), 0);
        CHECK.same("7: to 9", mail.setWind(9), 0);
        CHECK.same("35: force", mail.wind(), 9);
        for (int force : new int[] {-1, 10, FAR[0], FAR[1]}) {
            CHECK.refused("7: force", mail, ARGUMENT, () -> mail.setWind(force));
        }
        CHECK.same("7: to 0", mail.setWind(0), 9);
        CHECK.same("7: again", mail.setWind(0), 0);
    }

    private static void advancing() {
        CrowMail mail = Mails.with(2, 1, 0);
        for (int minutes : new int[] {0, -1, 101, FAR[0], FAR[1]}) {
            CHECK.refused("9: minutes", mail, ARGUMENT, () -> mail.advance(minutes));
        }
        CHECK.same("9: one", mail.advance(1), 0);
        CHECK.same("34: one", mail.time(), 1);
        CHECK.same("9: a hundred", mail.advance(100), 0);
        CHECK.same("34: a hundred more", mail.time(), 101);
        Mails.publish(mail, 0, 1, 2, 3, 4, 5);
        CHECK.same("9: all delivered", mail.advance(100), 5);
        CHECK.same("9: nothing more", mail.advance(100), 0);
        CHECK.same("34: time", mail.time(), 301);
    }

    private static void arrivals() {
        for (int loss = 0; loss <= 4; loss++) {
            for (int force = 0; force <= 9; force++) {
                CrowMail mail = Mails.with(4, 1, loss);
                Mails.publish(mail, 0, 0, 1, 2, 3);
                mail.advance(1);
                mail.setWind(force);
                mail.advance(1);
                for (int id = 0; id < 4; id++) {
                    boolean lost = (id + 1 + force) % 5 < loss;
                    CHECK.same("9: arrival " + id + " " + loss + " " + force, mail.status(id), lost ? 'n' : 'd');
                    CHECK.same("26: an attempt", mail.attempts(id), 1);
                }
            }
        }
    }

    private static void duplicates() {
        CrowMail mail = Mails.with(1, 1, 0, 1, 0);
        mail.publish(0, 7);
        mail.publish(0, 7);
        mail.publish(1, 7);
        CHECK.same("9: only two delivered", mail.advance(4), 2);
        CHECK.same("39: one dropped", mail.duplicateTotal(), 1);
        CHECK.same("9: the first stays", mail.status(0), 'd');
        CHECK.refused("9: the second has gone", mail, ELEMENT, () -> mail.status(1));
        CHECK.same("9: another nest's", mail.status(2), 'd');
        mail.read(0);
        mail.publish(0, 7);
        mail.advance(2);
        CHECK.same("39: also after the reading", mail.duplicateTotal(), 2);
        // With loss 1 and no wind, of the ids 0 to 4 only 4 is lost at its first arrival.
        CrowMail lossy = Mails.with(1, 1, 1);
        Mails.publish(lossy, 0, 1, 2, 3, 4, 1);
        lossy.advance(6);
        CHECK.same("9: a lost one naps, known or not", lossy.status(4), 'n');
    }

    private static void fullInbox() {
        CrowMail mail = Mails.with(1, 1, 0);
        Mails.publish(mail, 0, 0, 1, 2, 3, 4, 5, 6, 7, 8);
        CHECK.same("9: eight delivered", mail.advance(10), 8);
        CHECK.same("13: full", mail.inboxSize(0), 8);
        CHECK.same("9: the ninth naps", mail.status(8), 'n');
        CHECK.no("9: its key is not remembered", mail.remembers(0, 8));
        mail.publish(0, 3);
        mail.advance(2);
        CHECK.same("9: a duplicate at a full inbox is dropped", mail.duplicateTotal(), 1);
        mail.read(0);
        CHECK.same("9: room again", mail.advance(100), 1);
        CHECK.same("14: behind the others", mail.inboxMessage(0, 7), 8);
        CHECK.same("40: none failed", mail.failedTotal(), 0);
    }

    /** Taken at minute 1, then distance 2 and naps of 2, 4, 8 and 16: the arrivals are at 3, 7, 13, 23 and 41. */
    private static void naps() {
        CrowMail mail = Mails.with(1, 2, 0);
        Mails.publish(mail, 0, 0, 1, 2, 3, 4, 5, 6, 7);
        mail.advance(17);
        mail.publish(0, 50);
        int start = mail.time();
        int[] arrivals = {3, 7, 13, 23, 41};
        for (int attempt = 1; attempt <= 5; attempt++) {
            mail.advance(start + arrivals[attempt - 1] - mail.time() - 1);
            CHECK.same("9: flying to arrival " + attempt, mail.status(8), 'f');
            CHECK.same("26: before arrival", mail.attempts(8), attempt - 1);
            mail.advance(1);
            if (attempt < 5) {
                CHECK.same("27: naps after " + attempt, mail.status(8), 'n');
                CHECK.same("26: after arrival", mail.attempts(8), attempt);
                CHECK.same("28: whole nap", mail.napMinutes(8), 1 << attempt);
                mail.advance(1);
                CHECK.same("28: a minute later", mail.napMinutes(8), (1 << attempt) - 1);
            }
        }
        CHECK.same("40: failed at the fifth", mail.failedTotal(), 1);
        CHECK.refused("9: it has gone", mail, ELEMENT, () -> mail.status(8));
        CHECK.same("41: arrivals", mail.arrivalTotal(), 13);
    }

    private static void napLengths() {
        CrowMail mail = Mails.with(1, 1, 4);
        mail.publish(0, 1);
        mail.advance(2);
        CHECK.same("28: just begun", mail.napMinutes(0), 2);
        mail.addNest(9, 0);
        Mails.publish(mail, 1, 1);
        mail.advance(1);
        CHECK.same("28: one left", mail.napMinutes(0), 1);
        CHECK.same("27: the crow takes the other", mail.status(1), 'f');
        mail.advance(1);
        CHECK.same("27: awake, no crow is free", mail.status(0), 'w');
        CHECK.refused("28: awake", mail, STATE, () -> mail.napMinutes(0));
        CHECK.refused("28: flying", mail, STATE, () -> mail.napMinutes(1));
        for (int message : new int[] {-1, 2, FAR[0], FAR[1]}) {
            CHECK.refused("28: no such message", mail, ELEMENT, () -> mail.napMinutes(message));
        }
    }

    /** A message that was lost once waits behind all that have no attempt yet. */
    private static void waitingOrder() {
        CrowMail mail = Mails.with(1, 1, 4, 9, 0);
        mail.publish(0, 1);
        mail.advance(1);
        Mails.publish(mail, 1, 1, 2);
        mail.advance(4);
        mail.publish(1, 3);
        CHECK.same("29: the next is 2", mail.waitingMessage(0), 2);
        CHECK.same("29: then 3", mail.waitingMessage(1), 3);
        CHECK.same("29: the one with an attempt is last", mail.waitingMessage(2), 0);
        for (int rank : new int[] {-1, 3, 16, FAR[0], FAR[1]}) {
            CHECK.refused("29: rank", mail, ELEMENT, () -> mail.waitingMessage(rank));
        }
        mail.advance(6);
        CHECK.same("20: 2 is taken first", mail.carriedMessage(0), 2);
        mail.advance(9);
        CHECK.same("20: then 3", mail.carriedMessage(0), 3);
        mail.advance(9);
        CHECK.same("20: 0 at last", mail.carriedMessage(0), 0);
    }
}
