import java.util.NoSuchElementException;

/** The sentences of the document that name an edge of the messages (promises 4 to 6 and 22 to 30). */
public final class MessageBoundsTest {
    private static final Class<?> ARGUMENT = IllegalArgumentException.class;
    private static final Class<?> STATE = IllegalStateException.class;
    private static final Class<?> INDEX = IndexOutOfBoundsException.class;
    private static final Class<?> ELEMENT = NoSuchElementException.class;
    private static final Check CHECK = new Check("MessageBoundsTest");

    public static void main(String[] args) {
        CHECK.each(MessageBoundsTest::keys, MessageBoundsTest::attemptsAtFirst, MessageBoundsTest::ids,
            MessageBoundsTest::newMessageWaits, MessageBoundsTest::sixteenMessages,
            MessageBoundsTest::roomAfterReading, MessageBoundsTest::roomAfterDuplicate,
            MessageBoundsTest::roomAfterFailure, MessageBoundsTest::roomAfterCancelling,
            MessageBoundsTest::missingNestOfPublishing, MessageBoundsTest::wrongKeys,
            MessageBoundsTest::seventeenthMessage, MessageBoundsTest::firstInInbox,
            MessageBoundsTest::missingNestOfReading, MessageBoundsTest::emptyInbox,
            MessageBoundsTest::countAfterCancelling, MessageBoundsTest::missingMessages,
            MessageBoundsTest::messageThatCeased, MessageBoundsTest::refusedCancelling,
            MessageBoundsTest::messageCount, MessageBoundsTest::positions, MessageBoundsTest::missingPositions,
            MessageBoundsTest::statuses, MessageBoundsTest::napMinutesLeft, MessageBoundsTest::notNapping,
            MessageBoundsTest::waitingRanks, MessageBoundsTest::missingRanks, MessageBoundsTest::lostIfItArrivedNow,
            MessageBoundsTest::lostWhenDelivered);
        CHECK.finish();
    }

    private static void keys() {
        CHECK.sentence("Messages: has a key from 0 to 99");
        CrowMail mail = Mails.with(0, 1, 0);
        CHECK.same("least", mail.keyOf(mail.publish(0, 0)), 0);
        CHECK.same("most", mail.keyOf(mail.publish(0, 99)), 99);
        CHECK.refused("below", mail, ARGUMENT, () -> mail.publish(0, -1));
        CHECK.refused("above", mail, ARGUMENT, () -> mail.publish(0, 100));
    }

    private static void attemptsAtFirst() {
        CHECK.sentence("Messages: a number of attempts, initially 0");
        CrowMail mail = Mails.inEveryStatus();
        CHECK.same("new", mail.attempts(mail.publish(0, 1)), 0);
        CHECK.same("flying for the first time", mail.attempts(2), 0);
        CHECK.same("arrived once", mail.attempts(1), 1);
        mail.cancel(1);
        CHECK.same("new after one with attempts has gone", mail.attempts(mail.publish(0, 2)), 0);
    }

    private static void ids() {
        CHECK.sentence("Messages: The first message has the id 0, and each further message has the id of the message"
            + " published before it plus 1");
        CrowMail mail = Mails.with(1, 1, 0, 1, 0);
        CHECK.same("first", mail.publish(1, 5), 0);
        CHECK.same("second, of another nest", mail.publish(0, 5), 1);
        mail.advance(3);
        mail.read(0);
        mail.read(1);
        CHECK.same("after all were read", mail.publish(0, 6), 2);
        mail.cancel(2);
        CHECK.same("after a cancelled one", mail.publish(0, 6), 3);
        Check.thrownBy(() -> mail.publish(0, 100));
        CHECK.same("after a refused one", mail.publish(0, 7), 4);
        for (int id = 5; id < 200; id++) {
            CHECK.same("and so on", mail.publish(0, 7), id);
            mail.cancel(id);
        }
    }

    private static void newMessageWaits() {
        CHECK.sentence("Messages: a new message is waiting");
        CrowMail mail = Mails.with(4, 1, 0);
        CHECK.same("though crows are free", mail.status(mail.publish(0, 1)), 'w');
        mail.advance(1);
        mail.cancel(mail.publish(0, 2));
        CHECK.same("in the place of one that went", mail.status(mail.publish(0, 3)), 'w');
        mail.advance(1);
        mail.read(0);
        CHECK.same("in the place of a delivered one", mail.status(mail.publish(0, 4)), 'w');
    }

    private static void sixteenMessages() {
        CHECK.sentence("Messages: At most 16 messages exist at a time");
        CrowMail mail = Mails.inEveryStatus();
        for (int count = 5; count <= 16; count++) {
            mail.publish(0, count);
        }
        CHECK.same("with one delivered, one flying and one napping", mail.messageCount(), 16);
        CHECK.refused("not more", mail, STATE, () -> mail.publish(0, 17));
        CHECK.same("all of them are there", mail.messageAt(15), 15);
    }

    private static void roomAfterReading() {
        CHECK.sentence("Messages: A message ceases to exist when it is read");
        CrowMail mail = Mails.full();
        mail.advance(2);
        CHECK.refused("delivered ones are there", mail, STATE, () -> mail.publish(0, 50));
        CHECK.same("read", mail.read(0), 0);
        CHECK.refused("gone", mail, ELEMENT, () -> mail.status(0));
        CHECK.same("its room is free", mail.publish(0, 50), 16);
        CHECK.refused("but no more than its room", mail, STATE, () -> mail.publish(0, 51));
    }

    private static void roomAfterDuplicate() {
        CHECK.sentence("Messages: ceases to exist when it is dropped as a duplicate");
        CrowMail mail = Mails.with(1, 1, 0);
        for (int i = 0; i < 16; i++) {
            mail.publish(0, i < 2 ? 5 : i + 10);
        }
        mail.advance(3);
        CHECK.same("dropped", mail.duplicateTotal(), 1);
        CHECK.refused("gone", mail, ELEMENT, () -> mail.status(1));
        CHECK.same("its room is free", mail.publish(0, 50), 16);
        CHECK.refused("but no more than its room", mail, STATE, () -> mail.publish(0, 51));
    }

    private static void roomAfterFailure() {
        CHECK.sentence("Messages: ceases to exist when it failed");
        CrowMail mail = Mails.with(4, 1, 0);
        Mails.publish(mail, 0, 0, 1, 2, 3, 4, 5, 6, 7, 8, 9, 10, 11, 12, 13, 14, 15);
        CHECK.same("eight are delivered", mail.advance(100), 8);
        CHECK.same("eight failed", mail.failedTotal(), 8);
        for (int id = 8; id < 16; id++) {
            int gone = id;
            CHECK.refused("gone", mail, ELEMENT, () -> mail.status(gone));
            CHECK.same("its room is free", mail.publish(0, 50 + id), 8 + id);
        }
        CHECK.refused("but no more than their room", mail, STATE, () -> mail.publish(0, 99));
    }

    private static void roomAfterCancelling() {
        CHECK.sentence("Messages: ceases to exist when it is cancelled");
        CrowMail mail = Mails.full();
        CHECK.same("the last", mail.cancel(15), 15);
        CHECK.same("the first", mail.cancel(0), 14);
        CHECK.refused("gone", mail, ELEMENT, () -> mail.status(15));
        CHECK.same("room", mail.publish(0, 50), 16);
        CHECK.same("more room", mail.publish(0, 51), 17);
        CHECK.refused("but no more than their room", mail, STATE, () -> mail.publish(0, 52));
    }

    private static void missingNestOfPublishing() {
        CHECK.sentence("4: if there is no such nest");
        for (CrowMail mail : new CrowMail[] {new CrowMail(), Mails.inEveryStatus(), Mails.full()}) {
            for (int nest : Mails.outside(0, mail.nestCount() - 1)) {
                CHECK.refused("nest " + nest, mail, INDEX, () -> mail.publish(nest, 0));
                CHECK.refused("told before a wrong key", mail, INDEX, () -> mail.publish(nest, 100));
            }
        }
    }

    private static void wrongKeys() {
        CHECK.sentence("4: if the key is not between 0 and 99");
        for (CrowMail mail : new CrowMail[] {Mails.with(0, 1, 0), Mails.full()}) {
            for (int key : Mails.outside(0, 99)) {
                CHECK.refused("key " + key, mail, ARGUMENT, () -> mail.publish(0, key));
            }
        }
    }

    private static void seventeenthMessage() {
        CHECK.sentence("4: if there are 16 messages");
        CrowMail mail = Mails.full();
        CHECK.refused("there are 16", mail, STATE, () -> mail.publish(5, 99));
        mail.cancel(7);
        CHECK.same("there are 15, and the refused one took no id", mail.publish(5, 99), 16);
        CHECK.refused("there are 16 again", mail, STATE, () -> mail.publish(5, 99));
    }

    private static void firstInInbox() {
        CHECK.sentence("5: Reads the first message in the inbox of a nest");
        CrowMail mail = Mails.delivered(8);
        for (int id = 0; id < 8; id++) {
            CHECK.same("in the order of deliveries", mail.read(0), id);
        }
        CrowMail again = Mails.delivered(8);
        again.read(0);
        again.publish(0, 50);
        again.advance(2);
        for (int id = 1; id <= 8; id++) {
            CHECK.same("with one that came into a full inbox's free place", again.read(0), id);
        }
    }

    private static void missingNestOfReading() {
        CHECK.sentence("5: if there is no such nest");
        for (CrowMail mail : new CrowMail[] {new CrowMail(), Mails.delivered(8), Mails.full()}) {
            for (int nest : Mails.outside(0, mail.nestCount() - 1)) {
                CHECK.refused("nest " + nest, mail, INDEX, () -> mail.read(nest));
            }
        }
    }

    private static void emptyInbox() {
        CHECK.sentence("5: if the inbox is empty");
        CrowMail mail = Mails.with(1, 1, 0);
        CHECK.refused("a new nest's", mail, ELEMENT, () -> mail.read(0));
        mail.publish(0, 1);
        mail.advance(1);
        CHECK.refused("its message flies", mail, ELEMENT, () -> mail.read(0));
        mail.advance(1);
        mail.read(0);
        CHECK.refused("its only message was read", mail, ELEMENT, () -> mail.read(0));
    }

    private static void countAfterCancelling() {
        CHECK.sentence("6: the number of messages after the call");
        CrowMail mail = Mails.full();
        for (int id = 15; id >= 0; id--) {
            CHECK.same("one less", mail.cancel(id), id);
        }
        CrowMail every = Mails.inEveryStatus();
        CHECK.same("a napping one", every.cancel(1), 3);
        CHECK.same("a waiting one", every.cancel(3), 2);
    }

    private static void missingMessages() {
        for (CrowMail mail : new CrowMail[] {new CrowMail(), Mails.inEveryStatus(), Mails.full()}) {
            for (int message : Mails.outside(0, mail.publishedTotal() - 1)) {
                missingMessage(mail, message);
            }
        }
    }

    private static void missingMessage(CrowMail mail, int message) {
        String which = "message " + message + " of " + mail.messageCount();
        CHECK.sentence("6: if there is no such message");
        CHECK.refused(which, mail, ELEMENT, () -> mail.cancel(message));
        CHECK.sentence("24: if there is no such message");
        CHECK.refused(which, mail, ELEMENT, () -> mail.nestOf(message));
        CHECK.sentence("25: if there is no such message");
        CHECK.refused(which, mail, ELEMENT, () -> mail.keyOf(message));
        CHECK.sentence("26: if there is no such message");
        CHECK.refused(which, mail, ELEMENT, () -> mail.attempts(message));
        CHECK.sentence("27: if there is no such message");
        CHECK.refused(which, mail, ELEMENT, () -> mail.status(message));
        CHECK.sentence("28: if there is no such message");
        CHECK.refused(which, mail, ELEMENT, () -> mail.napMinutes(message));
        CHECK.sentence("30: if there is no such message");
        CHECK.refused(which, mail, ELEMENT, () -> mail.wouldBeLost(message));
        CHECK.sentence("33: if there is no such message");
        CHECK.refused(which, mail, ELEMENT, () -> mail.minutesUntilDelivered(message));
        CHECK.sentence("48: if there is no such message");
        CHECK.refused(which, mail, ELEMENT, () -> mail.renderMessage(message));
    }

    /** 0 was read, 1 dropped as a duplicate, 2 cancelled, and 11 failed before a full inbox. */
    private static void messageThatCeased() {
        CrowMail mail = Mails.with(1, 1, 0);
        Mails.publish(mail, 0, 50, 50, 51);
        mail.cancel(2);
        mail.advance(3);
        mail.read(0);
        Mails.publish(mail, 0, 0, 1, 2, 3, 4, 5, 6, 7, 8);
        mail.advance(100);
        for (int message : new int[] {0, 1, 2, 11}) {
            missingMessage(mail, message);
        }
    }

    private static void refusedCancelling() {
        CHECK.sentence("6: if the message is flying or delivered");
        CrowMail mail = Mails.inEveryStatus();
        CHECK.refused("delivered", mail, STATE, () -> mail.cancel(0));
        CHECK.refused("flying", mail, STATE, () -> mail.cancel(2));
        mail.advance(8);
        CHECK.refused("in the last minute of its flight", mail, STATE, () -> mail.cancel(2));
    }

    private static void messageCount() {
        CHECK.sentence("22: the number of messages");
        CHECK.same("none", Mails.with(4, 1, 0).messageCount(), 0);
        CHECK.same("in every status", Mails.inEveryStatus().messageCount(), 4);
        CHECK.same("sixteen", Mails.full().messageCount(), 16);
        CrowMail mail = Mails.delivered(1);
        CHECK.same("a delivered one exists", mail.messageCount(), 1);
        mail.read(0);
        CHECK.same("a read one does not", mail.messageCount(), 0);
    }

    private static void positions() {
        CHECK.sentence("23: its position in the order of ids");
        CrowMail mail = Mails.full();
        mail.cancel(15);
        mail.cancel(7);
        mail.cancel(0);
        int[] left = {1, 2, 3, 4, 5, 6, 8, 9, 10, 11, 12, 13, 14, 16};
        mail.publish(0, 50);
        for (int position = 0; position < left.length; position++) {
            CHECK.same("position " + position, mail.messageAt(position), left[position]);
        }
    }

    private static void missingPositions() {
        CHECK.sentence("23: if there is no such position");
        CrowMail emptied = Mails.with(0, 1, 0);
        emptied.cancel(emptied.publish(0, 1));
        for (CrowMail mail : new CrowMail[] {new CrowMail(), emptied, Mails.inEveryStatus(), Mails.full()}) {
            for (int position : Mails.outside(0, mail.messageCount() - 1)) {
                CHECK.refused("position " + position, mail, ELEMENT, () -> mail.messageAt(position));
            }
        }
    }

    private static void statuses() {
        CHECK.sentence("27: 'w' if it is waiting, 'f' if it is flying, 'n' if it is napping, 'd' if it is delivered");
        CrowMail mail = Mails.inEveryStatus();
        CHECK.same("waiting", mail.status(3), 'w');
        CHECK.same("flying", mail.status(2), 'f');
        CHECK.same("napping", mail.status(1), 'n');
        CHECK.same("delivered", mail.status(0), 'd');
    }

    private static void napMinutesLeft() {
        CHECK.sentence("28: how many minutes of the nap of a message are left");
        CrowMail mail = Mails.inEveryStatus();
        CHECK.same("the whole nap", mail.napMinutes(1), 2);
        mail.advance(1);
        CHECK.same("the last minute", mail.napMinutes(1), 1);
        mail.advance(1);
        CHECK.refused("over", mail, STATE, () -> mail.napMinutes(1));
    }

    private static void notNapping() {
        CHECK.sentence("28: if the message is not napping");
        CrowMail mail = Mails.inEveryStatus();
        CHECK.refused("delivered", mail, STATE, () -> mail.napMinutes(0));
        CHECK.refused("flying", mail, STATE, () -> mail.napMinutes(2));
        CHECK.refused("waiting", mail, STATE, () -> mail.napMinutes(3));
    }

    private static void waitingRanks() {
        CHECK.sentence("29: the waiting message at a rank of the order of waiting messages");
        CrowMail full = Mails.full();
        for (int rank = 0; rank < 16; rank++) {
            CHECK.same("rank " + rank, full.waitingMessage(rank), rank);
        }
        CrowMail mail = Mails.inEveryStatus();
        CHECK.same("the only one", mail.waitingMessage(0), 3);
        mail.advance(2);
        CHECK.same("the one without attempts", mail.waitingMessage(0), 3);
        CHECK.same("the one with an attempt", mail.waitingMessage(1), 1);
    }

    private static void missingRanks() {
        CHECK.sentence("29: if there is no such rank");
        CrowMail mail = Mails.inEveryStatus();
        for (int rank : Mails.outside(0, 0)) {
            CHECK.refused("of one that waits, rank " + rank, mail, ELEMENT, () -> mail.waitingMessage(rank));
        }
        mail.cancel(3);
        CHECK.refused("none waits", mail, ELEMENT, () -> mail.waitingMessage(0));
        CrowMail full = Mails.full();
        for (int rank : Mails.outside(0, 15)) {
            CHECK.refused("of 16 that wait, rank " + rank, full, ELEMENT, () -> full.waitingMessage(rank));
        }
        CrowMail none = new CrowMail();
        for (int rank : new int[] {Integer.MIN_VALUE, -1, 0, Integer.MAX_VALUE}) {
            CHECK.refused("without messages, rank " + rank, none, ELEMENT, () -> none.waitingMessage(rank));
        }
    }

    /** Message 0 is asked for in each state of its way, and what it tells comes true at the next arrival. */
    private static void lostIfItArrivedNow() {
        CHECK.sentence("30: if it arrived now, that is, with a number of attempts greater by 1 than it has");
        for (int loss = 0; loss <= 4; loss++) {
            for (int force = 0; force <= 9; force++) {
                CrowMail mail = Mails.with(1, 1, loss);
                mail.setWind(force);
                mail.publish(0, 1);
                while (mail.messageCount() > 0 && mail.status(0) != 'd') {
                    int attempts = mail.attempts(0);
                    boolean due = (attempts + 1 + force) % 5 < loss;
                    CHECK.same("attempts " + attempts + ", loss " + loss, mail.wouldBeLost(0), due);
                    mail.advance(1);
                    boolean arrived = mail.messageCount() > 0 && mail.attempts(0) > attempts;
                    CHECK.same("it comes true", arrived && mail.status(0) == 'n', arrived && due);
                }
            }
        }
    }

    private static void lostWhenDelivered() {
        CHECK.sentence("30: if the message is delivered");
        CrowMail mail = Mails.inEveryStatus();
        CHECK.refused("delivered", mail, STATE, () -> mail.wouldBeLost(0));
        CHECK.yes("napping", mail.wouldBeLost(1));
        CHECK.no("flying", mail.wouldBeLost(2));
        CHECK.no("waiting", mail.wouldBeLost(3));
    }
}
