import java.util.NoSuchElementException;

/** Promises 1, 2, 8 and 10 to 17: a new object and its nests. */
public final class NestTest {
    private static final Class<?> INDEX = IndexOutOfBoundsException.class;
    private static final Class<?> ELEMENT = NoSuchElementException.class;
    private static final Check CHECK = new Check("NestTest");

    public static void main(String[] args) {
        CHECK.each(NestTest::newObject, NestTest::addedNests, NestTest::refusedNests, NestTest::missingNests,
            NestTest::inbox, NestTest::fullInboxInOrder, NestTest::keys, NestTest::oldestKey, NestTest::forgetting,
            NestTest::ranks);
        CHECK.finish();
    }

    private static void newObject() {
        CrowMail mail = new CrowMail();
        CHECK.same("1: a new object", Picture.of(mail), "time 0 wind 0 totals 0 0 0 0 0 0 0\n");
        CHECK.same("1: nests", mail.nestCount(), 0);
        CHECK.same("1: crows", mail.crowCount(), 0);
        CHECK.same("1: messages", mail.messageCount(), 0);
        CHECK.same("1: output", Picture.ofOutput(mail), "");
        CHECK.yes("1: consistent", mail.isConsistent());
    }

    private static void addedNests() {
        CrowMail mail = new CrowMail();
        int[] distances = {1, 9, 5, 1, 9, 3};
        int[] losses = {0, 4, 2, 4, 0, 1};
        for (int i = 0; i < 6; i++) {
            CHECK.same("10: count before", mail.nestCount(), i);
            CHECK.same("2: index", mail.addNest(distances[i], losses[i]), i);
        }
        CHECK.same("10: count", mail.nestCount(), 6);
        for (int i = 0; i < 6; i++) {
            CHECK.same("11: distance", mail.distance(i), distances[i]);
            CHECK.same("12: loss", mail.loss(i), losses[i]);
            CHECK.same("13: inbox", mail.inboxSize(i), 0);
            CHECK.same("16: keys", mail.rememberedCount(i), 0);
        }
    }

    private static void refusedNests() {
        CrowMail mail = new CrowMail();
        Class<?> argument = IllegalArgumentException.class;
        int[][] wrong = {{0, 0}, {10, 0}, {-1, 0}, {1, -1}, {1, 5}, {Integer.MAX_VALUE, 0},
            {Integer.MIN_VALUE, 0}, {1, Integer.MAX_VALUE}, {1, Integer.MIN_VALUE}};
        for (int[] pair : wrong) {
            CHECK.refused("2: wrong nest", mail, argument, () -> mail.addNest(pair[0], pair[1]));
        }
        for (int i = 0; i < 6; i++) {
            mail.addNest(1, 0);
        }
        CHECK.refused("2: seventh nest", mail, IllegalStateException.class, () -> mail.addNest(1, 0));
        CHECK.refused("2: wrong seventh nest", mail, argument, () -> mail.addNest(0, 0));
        CHECK.refused("2: seventh nest, wrong loss", mail, argument, () -> mail.addNest(1, 5));
    }

    private static void missingNests() {
        CrowMail mail = Mails.with(1, 2, 1, 3, 2);
        for (int nest : new int[] {-1, 2, 6, Integer.MAX_VALUE, Integer.MIN_VALUE}) {
            CHECK.refused("8: forget", mail, INDEX, () -> mail.forget(nest));
            CHECK.refused("11: distance", mail, INDEX, () -> mail.distance(nest));
            CHECK.refused("12: loss", mail, INDEX, () -> mail.loss(nest));
            CHECK.refused("13: inboxSize", mail, INDEX, () -> mail.inboxSize(nest));
            CHECK.refused("14: inboxMessage", mail, INDEX, () -> mail.inboxMessage(nest, 0));
            CHECK.refused("14: inboxMessage, both wrong", mail, INDEX, () -> mail.inboxMessage(nest, -1));
            CHECK.refused("15: remembers", mail, INDEX, () -> mail.remembers(nest, 0));
            CHECK.refused("16: rememberedCount", mail, INDEX, () -> mail.rememberedCount(nest));
            CHECK.refused("17: nestByDeliveries", mail, ELEMENT, () -> mail.nestByDeliveries(nest));
        }
        CHECK.refused("17: no nests", new CrowMail(), ELEMENT, () -> new CrowMail().nestByDeliveries(0));
    }

    private static void inbox() {
        CrowMail mail = Mails.with(1, 1, 0);
        Mails.publish(mail, 0, 30, 20, 10);
        mail.advance(4);
        CHECK.same("13: three delivered", mail.inboxSize(0), 3);
        for (int position = 0; position < 3; position++) {
            CHECK.same("14: position " + position, mail.inboxMessage(0, position), position);
        }
        for (int position : new int[] {-1, 3, 8, Integer.MAX_VALUE, Integer.MIN_VALUE}) {
            CHECK.refused("14: position " + position, mail, ELEMENT, () -> mail.inboxMessage(0, position));
        }
        mail.read(0);
        CHECK.same("14: next after a reading", mail.inboxMessage(0, 0), 1);
        CHECK.refused("14: old last position", mail, ELEMENT, () -> mail.inboxMessage(0, 2));
    }

    private static void fullInboxInOrder() {
        CrowMail mail = Mails.with(4, 1, 0);
        Mails.publish(mail, 0, 1, 2, 3, 4, 5, 6, 7, 8);
        mail.advance(4);
        for (int read = 0; read < 8; read++) {
            for (int position = 0; position < 8 - read; position++) {
                CHECK.same("14: after " + read + " readings", mail.inboxMessage(0, position), read + position);
            }
            CHECK.same("5: the first of " + (8 - read), mail.read(0), read);
        }
        CHECK.same("13: empty", mail.inboxSize(0), 0);
    }

    private static void keys() {
        CrowMail mail = Mails.with(4, 1, 0, 1, 0);
        CHECK.no("15: key 0 of an empty memory", mail.remembers(0, 0));
        Mails.publish(mail, 0, 0, 99, 7);
        mail.advance(2);
        CHECK.yes("15: key 0", mail.remembers(0, 0));
        CHECK.yes("15: key 99", mail.remembers(0, 99));
        CHECK.yes("15: key 7", mail.remembers(0, 7));
        CHECK.no("15: of another nest", mail.remembers(1, 7));
        for (int key : new int[] {-1, 1, 100, 107, Integer.MAX_VALUE, Integer.MIN_VALUE}) {
            CHECK.no("15: key " + key, mail.remembers(0, key));
        }
        CHECK.same("16: keys", mail.rememberedCount(0), 3);
        CHECK.same("16: keys of another nest", mail.rememberedCount(1), 0);
        mail.read(0);
        CHECK.yes("15: a read message's key", mail.remembers(0, 0));
    }

    private static void oldestKey() {
        CrowMail mail = Mails.with(4, 1, 0);
        Mails.publish(mail, 0, 10, 11, 12, 13, 14, 15, 16, 17);
        mail.advance(4);
        for (int next = 0; next < 10; next++) {
            CHECK.same("16: full memory", mail.rememberedCount(0), 8);
            CHECK.yes("15: oldest key " + next, mail.remembers(0, 10 + next));
            mail.read(0);
            mail.publish(0, 18 + next);
            mail.advance(2);
            CHECK.no("15: forgotten key " + next, mail.remembers(0, 10 + next));
            CHECK.yes("15: second key " + next, mail.remembers(0, 11 + next));
            CHECK.yes("15: new key " + next, mail.remembers(0, 18 + next));
        }
    }

    private static void forgetting() {
        CrowMail mail = Mails.with(4, 1, 0, 1, 0);
        Mails.publish(mail, 0, 5, 6, 7);
        mail.publish(1, 5);
        mail.advance(2);
        CHECK.same("8: keys before", mail.forget(0), 3);
        CHECK.same("8: no keys left", mail.rememberedCount(0), 0);
        CHECK.no("8: key gone", mail.remembers(0, 5));
        CHECK.yes("8: other nest's key stays", mail.remembers(1, 5));
        CHECK.same("8: inbox stays", mail.inboxSize(0), 3);
        CHECK.same("8: again", mail.forget(0), 0);
        mail.publish(0, 5);
        mail.advance(2);
        CHECK.same("8: a forgotten key is no duplicate", mail.inboxSize(0), 4);
        CHECK.same("8: no duplicate", mail.duplicateTotal(), 0);
    }

    private static void ranks() {
        CrowMail mail = Mails.with(4, 3, 0, 2, 0, 2, 0, 1, 0);
        ranked(mail, "by distance, then index", 3, 1, 2, 0);
        mail.publish(0, 1);
        mail.advance(4);
        ranked(mail, "the far nest with a delivery is first", 0, 3, 1, 2);
        mail.read(0);
        mail.forget(0);
        ranked(mail, "a read message counts", 0, 3, 1, 2);
        Mails.publish(mail, 2, 1, 2);
        mail.advance(3);
        ranked(mail, "two deliveries before one", 2, 0, 3, 1);
        mail.publish(1, 1);
        mail.advance(3);
        ranked(mail, "one delivery each, the nearer first", 2, 1, 0, 3);
        CHECK.refused("17: rank 4", mail, ELEMENT, () -> mail.nestByDeliveries(4));
    }

    private static void ranked(CrowMail mail, String what, int... due) {
        for (int rank = 0; rank < due.length; rank++) {
            CHECK.same("17: " + what + ", rank " + rank, mail.nestByDeliveries(rank), due[rank]);
        }
    }
}
