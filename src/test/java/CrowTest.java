import java.util.NoSuchElementException;

/** Promises 3 and 18 to 21: crows. */
public final class CrowTest {
    private static final Class<?> INDEX = IndexOutOfBoundsException.class;
    private static final Class<?> ELEMENT = NoSuchElementException.class;
    private static final Check CHECK = new Check("CrowTest");

    public static void main(String[] args) {
        CHECK.each(CrowTest::addedCrows, CrowTest::missingCrows, CrowTest::flights, CrowTest::windyFlights,
            CrowTest::lateCrow);
        CHECK.finish();
    }

    private static void addedCrows() {
        CrowMail mail = new CrowMail();
        for (int i = 0; i < 4; i++) {
            CHECK.same("18: count before", mail.crowCount(), i);
            CHECK.same("3: index", mail.addCrow(), i);
            CHECK.no("19: a new crow is free", mail.isFlying(i));
            CHECK.same("21: of a new crow", mail.flightMinutes(i), 0);
        }
        CHECK.same("18: count", mail.crowCount(), 4);
        CHECK.refused("3: fifth crow", mail, IllegalStateException.class, () -> mail.addCrow());
    }

    private static void missingCrows() {
        CrowMail mail = Mails.with(2, 1, 0);
        for (int crow : new int[] {-1, 2, 4, Integer.MAX_VALUE, Integer.MIN_VALUE}) {
            CHECK.refused("19: isFlying", mail, INDEX, () -> mail.isFlying(crow));
            CHECK.refused("20: carriedMessage", mail, INDEX, () -> mail.carriedMessage(crow));
            CHECK.refused("21: flightMinutes", mail, INDEX, () -> mail.flightMinutes(crow));
        }
        CHECK.refused("20: of a free crow", mail, ELEMENT, () -> mail.carriedMessage(1));
    }

    private static void flights() {
        CrowMail mail = Mails.with(3, 3, 0, 1, 0);
        mail.publish(0, 1);
        mail.publish(1, 2);
        CHECK.no("19: before the first minute", mail.isFlying(0));
        mail.advance(1);
        CHECK.same("20: crow 0 takes the first", mail.carriedMessage(0), 0);
        CHECK.same("20: crow 1 takes the second", mail.carriedMessage(1), 1);
        CHECK.no("19: nothing for crow 2", mail.isFlying(2));
        CHECK.same("21: a whole flight", mail.flightMinutes(0), 3);
        CHECK.same("21: a short flight", mail.flightMinutes(1), 1);
        mail.advance(1);
        CHECK.same("21: a minute later", mail.flightMinutes(0), 2);
        CHECK.no("19: landed", mail.isFlying(1));
        CHECK.same("21: landed", mail.flightMinutes(1), 0);
        CHECK.refused("20: landed", mail, ELEMENT, () -> mail.carriedMessage(1));
        CHECK.same("9: the near one is there", mail.status(1), 'd');
        mail.advance(1);
        CHECK.yes("19: still flying", mail.isFlying(0));
        CHECK.same("9: minutes 4", mail.advance(1), 1);
        CHECK.no("19: free again", mail.isFlying(0));
    }

    private static void windyFlights() {
        for (int force = 0; force <= 9; force++) {
            CrowMail mail = Mails.with(1, 4, 0);
            mail.setWind(force);
            mail.publish(0, 1);
            mail.advance(1);
            int due = force > 5 ? 5 : 4;
            CHECK.same("21: force " + force, mail.flightMinutes(0), due);
            mail.setWind(9 - force);
            CHECK.same("21: the wind when it was taken counts", mail.flightMinutes(0), due);
            CHECK.same("9: one minute short", mail.advance(due - 1), 0);
            CHECK.same("9: the last minute", mail.advance(1), 1);
        }
    }

    private static void lateCrow() {
        CrowMail mail = Mails.with(0, 1, 0);
        mail.publish(0, 1);
        mail.advance(10);
        CHECK.same("27: waits without crows", mail.status(0), 'w');
        mail.addCrow();
        CHECK.no("3: added free", mail.isFlying(0));
        mail.advance(1);
        CHECK.yes("19: takes it in the next minute", mail.isFlying(0));
        mail.publish(0, 2);
        mail.advance(1);
        CHECK.same("20: a crow that landed takes the next at once", mail.carriedMessage(0), 1);
    }
}
