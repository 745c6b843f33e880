import java.util.NoSuchElementException;

/** The sentences of the document that name an edge of crows, flights and wind (promises 3, 7, 18 to 21 and 35). */
public final class CrowBoundsTest {
    private static final Class<?> INDEX = IndexOutOfBoundsException.class;
    private static final Class<?> ELEMENT = NoSuchElementException.class;
    private static final Check CHECK = new Check("CrowBoundsTest");

    public static void main(String[] args) {
        CHECK.each(CrowBoundsTest::fourCrows, CrowBoundsTest::indices, CrowBoundsTest::freeOrFlying,
            CrowBoundsTest::fifthCrow, CrowBoundsTest::crowCount, CrowBoundsTest::missingCrows,
            CrowBoundsTest::freeCrowCarriesNothing, CrowBoundsTest::minutesOfFreeCrow,
            CrowBoundsTest::minutesOfFlight, CrowBoundsTest::forces, CrowBoundsTest::wrongForces,
            CrowBoundsTest::previousForce, CrowBoundsTest::flightAsLongAsDistance,
            CrowBoundsTest::windGreaterThanFive, CrowBoundsTest::windWhenTaken);
        CHECK.finish();
    }

    private static void fourCrows() {
        CHECK.sentence("Crows: At most 4 crows exist");
        CrowMail mail = new CrowMail();
        for (int i = 0; i < 4; i++) {
            CHECK.same("crow " + i, mail.addCrow(), i);
        }
        CHECK.refused("a fifth", mail, IllegalStateException.class, () -> mail.addCrow());
        mail.undo();
        CHECK.same("one that was undone leaves its place", mail.addCrow(), 3);
    }

    /** A crow that is added takes its message after the crows that were there. */
    private static void indices() {
        CHECK.sentence("Crows: they have the indices 0 to n - 1 in the order in which they were added");
        CrowMail mail = Mails.with(0, 9, 0);
        Mails.publish(mail, 0, 1, 2, 3, 4, 5);
        for (int i = 0; i < 4; i++) {
            CHECK.same("the next index", mail.addCrow(), i);
            mail.advance(1);
            CHECK.same("its message", mail.carriedMessage(i), i);
        }
    }

    private static void freeOrFlying() {
        CHECK.sentence("Crows: A crow is free or flies with a message");
        CrowMail mail = Mails.with(4, 1, 0);
        Mails.publish(mail, 0, 1, 2, 3);
        mail.advance(1);
        for (int crow = 0; crow < 3; crow++) {
            CHECK.yes("flies", mail.isFlying(crow));
            CHECK.same("with a message", mail.carriedMessage(crow), crow);
        }
        CHECK.no("free", mail.isFlying(3));
        CHECK.refused("without a message", mail, ELEMENT, () -> mail.carriedMessage(3));
    }

    private static void fifthCrow() {
        CHECK.sentence("3: if there are 4 crows");
        CrowMail free = Mails.with(3);
        CHECK.same("there are 3", free.addCrow(), 3);
        CHECK.refused("there are 4 free ones", free, IllegalStateException.class, () -> free.addCrow());
        CrowMail flying = Mails.full();
        flying.advance(1);
        CHECK.refused("there are 4 flying ones", flying, IllegalStateException.class, () -> flying.addCrow());
    }

    private static void crowCount() {
        CHECK.sentence("18: the number of crows");
        for (int count = 0; count <= 4; count++) {
            CHECK.same("so many", Mails.with(count).crowCount(), count);
        }
        CrowMail mail = Mails.full();
        Check.thrownBy(() -> mail.addCrow());
        CHECK.same("a refused one does not count", mail.crowCount(), 4);
        mail.advance(1);
        CHECK.same("flying ones count", mail.crowCount(), 4);
    }

    private static void missingCrows() {
        CrowMail flying = Mails.full();
        flying.advance(1);
        for (CrowMail mail : new CrowMail[] {new CrowMail(), Mails.inEveryStatus(), flying}) {
            for (int crow : Mails.outside(0, mail.crowCount() - 1)) {
                String which = "crow " + crow + " of " + mail.crowCount();
                CHECK.sentence("19: if there is no such crow");
                CHECK.refused(which, mail, INDEX, () -> mail.isFlying(crow));
                CHECK.sentence("20: if there is no such crow");
                CHECK.refused(which, mail, INDEX, () -> mail.carriedMessage(crow));
                CHECK.sentence("21: if there is no such crow");
                CHECK.refused(which, mail, INDEX, () -> mail.flightMinutes(crow));
            }
        }
    }

    private static void freeCrowCarriesNothing() {
        CHECK.sentence("20: if the crow is free");
        CrowMail mail = Mails.with(1, 2, 0);
        CHECK.refused("it never flew", mail, ELEMENT, () -> mail.carriedMessage(0));
        mail.publish(0, 1);
        CHECK.refused("before the minute passes", mail, ELEMENT, () -> mail.carriedMessage(0));
        mail.advance(2);
        CHECK.same("in the last minute", mail.carriedMessage(0), 0);
        mail.advance(1);
        CHECK.refused("it landed", mail, ELEMENT, () -> mail.carriedMessage(0));
    }

    private static void minutesOfFreeCrow() {
        CHECK.sentence("21: 0 for a free crow");
        CrowMail mail = Mails.with(1, 1, 0);
        CHECK.same("it never flew", mail.flightMinutes(0), 0);
        mail.advance(100);
        CHECK.same("nothing to take", mail.flightMinutes(0), 0);
        mail.publish(0, 1);
        mail.advance(2);
        CHECK.same("it landed", mail.flightMinutes(0), 0);
        mail.advance(1);
        CHECK.same("a minute after", mail.flightMinutes(0), 0);
    }

    private static void minutesOfFlight() {
        CHECK.sentence("21: how many minutes of the flight of a crow are left");
        CrowMail mail = Mails.with(1, 9, 0);
        mail.publish(0, 1);
        for (int left = 9; left >= 0; left--) {
            mail.advance(1);
            CHECK.same("one less each minute", mail.flightMinutes(0), left);
            CHECK.same("flying till the last", mail.isFlying(0), left > 0);
        }
    }

    private static void forces() {
        CHECK.sentence("Wind: a force from 0 to 9, initially 0");
        CrowMail mail = new CrowMail();
        CHECK.same("initially", mail.wind(), 0);
        for (int force = 9; force >= 0; force--) {
            mail.setWind(force);
            CHECK.same("35: the force of the wind", mail.wind(), force);
        }
    }

    private static void wrongForces() {
        CHECK.sentence("7: if the force is not between 0 and 9");
        CrowMail mail = new CrowMail();
        CHECK.same("0", mail.setWind(0), 0);
        CHECK.same("9", mail.setWind(9), 0);
        for (int force : Mails.outside(0, 9)) {
            CHECK.refused("force " + force, mail, IllegalArgumentException.class, () -> mail.setWind(force));
        }
        CHECK.same("it stays", mail.wind(), 9);
    }

    private static void previousForce() {
        CHECK.sentence("7: the previous force");
        CrowMail mail = new CrowMail();
        CHECK.same("the first", mail.setWind(4), 0);
        CHECK.same("the same again", mail.setWind(4), 4);
        CHECK.same("the greatest", mail.setWind(9), 4);
        CHECK.same("back to none", mail.setWind(0), 9);
    }

    private static void flightAsLongAsDistance() {
        CHECK.sentence("One minute: A flight lasts as many minutes as the distance of the nest of the message");
        for (int distance = 1; distance <= 9; distance++) {
            CrowMail mail = Mails.with(1, distance, 0);
            mail.publish(0, 1);
            CHECK.same("taken, and all but the last minute", mail.advance(distance), 0);
            CHECK.same("the last minute", mail.advance(1), 1);
        }
    }

    private static void windGreaterThanFive() {
        CHECK.sentence("One minute: 1 minute more if the force of the wind is greater than 5");
        for (int force = 0; force <= 9; force++) {
            for (int distance : new int[] {1, 9}) {
                CrowMail mail = Mails.with(1, distance, 0);
                mail.setWind(force);
                mail.publish(0, 1);
                mail.advance(1);
                CHECK.same("force " + force, mail.flightMinutes(0), force > 5 ? distance + 1 : distance);
            }
        }
    }

    private static void windWhenTaken() {
        CHECK.sentence("One minute: when it is taken");
        CrowMail mail = Mails.with(1, 2, 0);
        mail.setWind(6);
        mail.publish(0, 1);
        mail.setWind(5);
        mail.advance(1);
        CHECK.same("not when it was published", mail.flightMinutes(0), 2);
        mail.setWind(6);
        CHECK.same("nor afterwards", mail.flightMinutes(0), 2);
        mail.advance(2);
        CHECK.same("delivered in time", mail.status(0), 'd');
        mail.publish(0, 2);
        mail.advance(1);
        mail.setWind(0);
        mail.advance(2);
        CHECK.same("and a long flight stays long", mail.status(1), 'f');
        mail.advance(1);
        CHECK.same("delivered a minute later", mail.status(1), 'd');
    }
}
