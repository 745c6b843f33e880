import java.util.NoSuchElementException;

/** The sentences of the document that name an edge of the nests (promises 1, 2, 8 and 10 to 17). */
public final class NestBoundsTest {
    private static final Class<?> ARGUMENT = IllegalArgumentException.class;
    private static final Class<?> STATE = IllegalStateException.class;
    private static final Class<?> INDEX = IndexOutOfBoundsException.class;
    private static final Class<?> ELEMENT = NoSuchElementException.class;
    private static final Check CHECK = new Check("NestBoundsTest");

    public static void main(String[] args) {
        CHECK.each(NestBoundsTest::newObject, NestBoundsTest::sixNests, NestBoundsTest::indices,
            NestBoundsTest::distances, NestBoundsTest::losses, NestBoundsTest::wrongNests,
            NestBoundsTest::seventhNest, NestBoundsTest::fullInbox, NestBoundsTest::eightKeys,
            NestBoundsTest::ninthKey, NestBoundsTest::keyOfDuplicate, NestBoundsTest::keyThatCameBack,
            NestBoundsTest::keysAfterForget, NestBoundsTest::forgetting, NestBoundsTest::nestCount,
            NestBoundsTest::missingNests, NestBoundsTest::inboxSize, NestBoundsTest::inboxPositions,
            NestBoundsTest::inboxOrderOfExceptions, NestBoundsTest::rememberedKeys, NestBoundsTest::rememberedCount,
            NestBoundsTest::ranksByDeliveries, NestBoundsTest::ranksByDistance, NestBoundsTest::ranksByIndex,
            NestBoundsTest::missingRanks);
        CHECK.finish();
    }

    private static void newObject() {
        CHECK.sentence("1: without nests, crows and messages at time 0");
        CrowMail mail = new CrowMail();
        CHECK.same("nests", mail.nestCount(), 0);
        CHECK.same("crows", mail.crowCount(), 0);
        CHECK.same("messages", mail.messageCount(), 0);
        CHECK.same("time", mail.time(), 0);
        CHECK.same("another object is new too", Mails.with(1, 1, 0).nestCount() - new CrowMail().nestCount(), 1);
    }

    private static void sixNests() {
        CHECK.sentence("Nests: At most 6 nests exist");
        CrowMail mail = new CrowMail();
        for (int i = 0; i < 6; i++) {
            CHECK.same("nest " + i, mail.addNest(1, 0), i);
        }
        CHECK.refused("a seventh", mail, STATE, () -> mail.addNest(1, 0));
        CHECK.same("still six", mail.nestCount(), 6);
        mail.undo();
        CHECK.same("one that was undone leaves its place", mail.addNest(2, 1), 5);
        CHECK.same("to the new one", mail.distance(5), 2);
    }

    private static void indices() {
        CHECK.sentence("Nests: they have the indices 0 to n - 1 in the order in which they were added");
        CrowMail mail = new CrowMail();
        for (int i = 0; i < 6; i++) {
            CHECK.same("the next index", mail.addNest(9 - i, i % 5), i);
        }
        for (int i = 0; i < 6; i++) {
            CHECK.same("distance " + i, mail.distance(i), 9 - i);
            CHECK.same("loss " + i, mail.loss(i), i % 5);
        }
    }

    private static void distances() {
        CHECK.sentence("Nests: A nest has a distance from 1 to 9");
        CrowMail mail = new CrowMail();
        mail.addNest(1, 0);
        mail.addNest(9, 0);
        CHECK.same("least", mail.distance(0), 1);
        CHECK.same("most", mail.distance(1), 9);
        CHECK.refused("below", mail, ARGUMENT, () -> mail.addNest(0, 0));
        CHECK.refused("above", mail, ARGUMENT, () -> mail.addNest(10, 0));
    }

    private static void losses() {
        CHECK.sentence("Nests: a loss from 0 to 4");
        CrowMail mail = new CrowMail();
        mail.addNest(1, 0);
        mail.addNest(1, 4);
        CHECK.same("least", mail.loss(0), 0);
        CHECK.same("most", mail.loss(1), 4);
        CHECK.refused("below", mail, ARGUMENT, () -> mail.addNest(1, -1));
        CHECK.refused("above", mail, ARGUMENT, () -> mail.addNest(1, 5));
    }

    private static void wrongNests() {
        CHECK.sentence("2: if the distance is not between 1 and 9, or the loss is not between 0 and 4");
        CrowMail mail = new CrowMail();
        for (int distance : Mails.outside(1, 9)) {
            CHECK.refused("distance " + distance, mail, ARGUMENT, () -> mail.addNest(distance, 0));
            for (int loss : Mails.outside(0, 4)) {
                CHECK.refused("loss " + loss, mail, ARGUMENT, () -> mail.addNest(9, loss));
                CHECK.refused("both", mail, ARGUMENT, () -> mail.addNest(distance, loss));
            }
        }
        CHECK.same("none was added", mail.nestCount(), 0);
    }

    private static void seventhNest() {
        CHECK.sentence("2: if there are 6 nests");
        CrowMail mail = Mails.with(0, 1, 0, 2, 1, 3, 2, 4, 3, 5, 4);
        CHECK.same("there are 5", mail.addNest(6, 0), 5);
        CHECK.refused("there are 6", mail, STATE, () -> mail.addNest(7, 0));
        CHECK.refused("a wrong distance is told first", mail, ARGUMENT, () -> mail.addNest(10, 0));
        CHECK.refused("a wrong loss is told first", mail, ARGUMENT, () -> mail.addNest(1, 5));
    }

    private static void fullInbox() {
        CHECK.sentence("Nests: an inbox of at most 8 messages");
        CrowMail mail = Mails.delivered(7);
        mail.publish(0, 50);
        CHECK.same("the eighth", mail.advance(2), 1);
        CHECK.same("full", mail.inboxSize(0), 8);
        mail.publish(0, 51);
        CHECK.same("the ninth", mail.advance(2), 0);
        CHECK.same("not more", mail.inboxSize(0), 8);
    }

    private static void eightKeys() {
        CHECK.sentence("Nests: it remembers at most 8 keys");
        CrowMail mail = Mails.delivered(8);
        CHECK.same("eight", mail.rememberedCount(0), 8);
        for (int key = 0; key < 8; key++) {
            CHECK.yes("all of them, key " + key, mail.remembers(0, key));
        }
        mail.read(0);
        mail.publish(0, 8);
        mail.advance(2);
        CHECK.same("not more", mail.rememberedCount(0), 8);
    }

    private static void ninthKey() {
        CHECK.sentence("Nests: it forgets the key that it has remembered for the longest time");
        CrowMail mail = Mails.with(1, 1, 0);
        for (int count = 1; count <= 20; count++) {
            mail.publish(0, 100 - count);
            mail.advance(2);
            mail.read(0);
            for (int earlier = 1; earlier <= count; earlier++) {
                CHECK.same("key " + earlier + " of " + count, mail.remembers(0, 100 - earlier), earlier > count - 8);
            }
        }
    }

    private static void keyOfDuplicate() {
        CHECK.sentence("Nests: for the longest time, also if a duplicate of it came since");
        CrowMail mail = Mails.delivered(8);
        mail.publish(0, 0);
        mail.advance(2);
        CHECK.same("dropped", mail.duplicateTotal(), 1);
        mail.read(0);
        mail.publish(0, 8);
        mail.advance(2);
        CHECK.no("the oldest", mail.remembers(0, 0));
        CHECK.yes("the second oldest", mail.remembers(0, 1));
    }

    private static void keyThatCameBack() {
        CHECK.sentence("Nests: a key that was forgotten and came back is the youngest");
        CrowMail mail = Mails.delivered(8);
        for (int key : new int[] {8, 0, 9}) {
            mail.read(0);
            mail.publish(0, key);
            mail.advance(2);
        }
        CHECK.yes("it came back", mail.remembers(0, 0));
        CHECK.no("1 went for it", mail.remembers(0, 1));
        CHECK.no("2 went for the next", mail.remembers(0, 2));
        CHECK.same("none was dropped", mail.duplicateTotal(), 0);
    }

    private static void keysAfterForget() {
        CHECK.sentence("8: Lets a nest forget all keys");
        CrowMail mail = Mails.delivered(8);
        mail.forget(0);
        for (int key = 0; key < 8; key++) {
            CHECK.no("forgotten", mail.remembers(0, key));
        }
        for (int key = 7; key >= 0; key--) {
            mail.read(0);
            mail.publish(0, key);
            mail.advance(2);
            CHECK.same("remembered anew", mail.rememberedCount(0), 8 - key);
        }
        CHECK.same("none was a duplicate", mail.duplicateTotal(), 0);
    }

    private static void forgetting() {
        CHECK.sentence("8: the number of keys that it remembered");
        CrowMail mail = Mails.delivered(8);
        CHECK.same("eight", mail.forget(0), 8);
        CHECK.same("none", mail.forget(0), 0);
        CHECK.same("none of a new nest", mail.forget(mail.addNest(9, 4)), 0);
        CHECK.same("one", Mails.delivered(1).forget(0), 1);
    }

    private static void nestCount() {
        CHECK.sentence("10: the number of nests");
        CrowMail mail = new CrowMail();
        CHECK.same("none", mail.nestCount(), 0);
        for (int i = 1; i <= 6; i++) {
            mail.addNest(i, 0);
            CHECK.same("so many", mail.nestCount(), i);
        }
        Check.thrownBy(() -> mail.addNest(1, 0));
        CHECK.same("a refused one does not count", mail.nestCount(), 6);
    }

    private static void missingNests() {
        for (CrowMail mail : new CrowMail[] {new CrowMail(), Mails.delivered(8), Mails.full()}) {
            for (int nest : Mails.outside(0, mail.nestCount() - 1)) {
                missingNest(mail, nest);
            }
        }
    }

    private static void missingNest(CrowMail mail, int nest) {
        String which = "nest " + nest + " of " + mail.nestCount();
        CHECK.sentence("8: if there is no such nest");
        CHECK.refused(which, mail, INDEX, () -> mail.forget(nest));
        CHECK.sentence("11: if there is no such nest");
        CHECK.refused(which, mail, INDEX, () -> mail.distance(nest));
        CHECK.sentence("12: if there is no such nest");
        CHECK.refused(which, mail, INDEX, () -> mail.loss(nest));
        CHECK.sentence("13: if there is no such nest");
        CHECK.refused(which, mail, INDEX, () -> mail.inboxSize(nest));
        CHECK.sentence("14: if there is no such nest");
        CHECK.refused(which, mail, INDEX, () -> mail.inboxMessage(nest, 0));
        CHECK.sentence("15: if there is no such nest");
        CHECK.refused(which, mail, INDEX, () -> mail.remembers(nest, 0));
        CHECK.sentence("16: if there is no such nest");
        CHECK.refused(which, mail, INDEX, () -> mail.rememberedCount(nest));
    }

    private static void inboxSize() {
        CHECK.sentence("13: the number of messages in the inbox of a nest");
        CrowMail mail = Mails.with(1, 1, 0);
        CHECK.same("empty", mail.inboxSize(0), 0);
        mail.publish(0, 0);
        CHECK.same("a waiting message does not lie in it", mail.inboxSize(0), 0);
        mail.advance(1);
        CHECK.same("nor a flying one", mail.inboxSize(0), 0);
        for (int count = 1; count <= 8; count++) {
            CHECK.same("so many", Mails.delivered(count).inboxSize(0), count);
        }
        CrowMail full = Mails.delivered(8);
        for (int left = 7; left >= 0; left--) {
            full.read(0);
            CHECK.same("after a reading", full.inboxSize(0), left);
        }
    }

    private static void inboxPositions() {
        CHECK.sentence("14: if there is no such position");
        for (int count = 0; count <= 8; count++) {
            CrowMail mail = Mails.delivered(count);
            for (int position = 0; position < count; position++) {
                CHECK.same("position " + position, mail.inboxMessage(0, position), position);
            }
            for (int position : Mails.outside(0, count - 1)) {
                CHECK.refused("position " + position, mail, ELEMENT, () -> mail.inboxMessage(0, position));
            }
        }
        CrowMail read = Mails.delivered(8);
        read.read(0);
        CHECK.same("0 is the message that is read next", read.inboxMessage(0, 0), 1);
        CHECK.same("the last one", read.inboxMessage(0, 6), 7);
        CHECK.refused("the place that became free", read, ELEMENT, () -> read.inboxMessage(0, 7));
    }

    private static void inboxOrderOfExceptions() {
        CHECK.sentence("14: no such nest is told before no such position");
        CrowMail mail = Mails.delivered(1);
        CHECK.refused("both too small", mail, INDEX, () -> mail.inboxMessage(-1, -1));
        CHECK.refused("both too large", mail, INDEX, () -> mail.inboxMessage(1, 1));
    }

    private static void rememberedKeys() {
        CHECK.sentence("15: `key`: any number");
        CrowMail mail = Mails.with(2, 1, 0);
        CHECK.no("0 of an empty memory", mail.remembers(0, 0));
        Mails.publish(mail, 0, 0, 99);
        mail.advance(2);
        CHECK.yes("the least key", mail.remembers(0, 0));
        CHECK.yes("the greatest key", mail.remembers(0, 99));
        for (int key : Mails.outside(0, 99)) {
            CHECK.no("key " + key, mail.remembers(0, key));
        }
        CHECK.no("1 in between", mail.remembers(0, 1));
        CHECK.no("98 in between", mail.remembers(0, 98));
    }

    private static void rememberedCount() {
        CHECK.sentence("16: the number of keys that a nest remembers");
        CHECK.same("none", Mails.with(0, 1, 0).rememberedCount(0), 0);
        for (int count = 1; count <= 8; count++) {
            CHECK.same("so many", Mails.delivered(count).rememberedCount(0), count);
        }
        CrowMail mail = Mails.delivered(8);
        while (mail.inboxSize(0) > 0) {
            mail.read(0);
        }
        CHECK.same("reading leaves the keys", mail.rememberedCount(0), 8);
        mail.forget(0);
        CHECK.same("none after forget", mail.rememberedCount(0), 0);
    }

    private static void ranksByDeliveries() {
        CHECK.sentence("17: sorted by the number of messages that have been delivered to them so far");
        CrowMail mail = Mails.with(4, 1, 0, 9, 0);
        ranked(mail, "none delivered", 0, 1);
        mail.publish(1, 1);
        mail.advance(10);
        ranked(mail, "one delivered to the far nest", 1, 0);
        mail.publish(1, 1);
        mail.publish(0, 1);
        mail.advance(10);
        ranked(mail, "a duplicate does not count", 0, 1);
        mail.publish(1, 2);
        mail.advance(10);
        while (mail.inboxSize(1) > 0) {
            mail.read(1);
        }
        mail.forget(1);
        ranked(mail, "read and forgotten ones count", 1, 0);
    }

    private static void ranksByDistance() {
        CHECK.sentence("17: then by distance in ascending order");
        ranked(Mails.with(0, 9, 0, 8, 0, 1, 0), "falling distances", 2, 1, 0);
        ranked(Mails.with(0, 1, 4, 2, 0, 9, 2), "rising distances, the loss does not count", 0, 1, 2);
    }

    private static void ranksByIndex() {
        CHECK.sentence("17: then by index in ascending order");
        ranked(Mails.with(0, 5, 4, 5, 3, 5, 2, 5, 1, 5, 0, 5, 4), "six alike", 0, 1, 2, 3, 4, 5);
        ranked(Mails.with(0, 5, 0, 1, 0, 5, 0, 1, 0), "two and two alike", 1, 3, 0, 2);
    }

    private static void missingRanks() {
        CHECK.sentence("17: if there is no such rank");
        for (CrowMail mail : new CrowMail[] {new CrowMail(), Mails.with(0, 1, 0), Mails.full()}) {
            for (int rank : Mails.outside(0, mail.nestCount() - 1)) {
                CHECK.refused("rank " + rank, mail, ELEMENT, () -> mail.nestByDeliveries(rank));
            }
        }
    }

    private static void ranked(CrowMail mail, String what, int... due) {
        for (int rank = 0; rank < due.length; rank++) {
            CHECK.same(what + ", rank " + rank, mail.nestByDeliveries(rank), due[rank]);
        }
    }
}
