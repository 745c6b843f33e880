/** The sentences of the document that name an edge of minutes, arrivals and predictions (promises 9 and 31 to 34). */
public final class MinuteBoundsTest {
    private static final Class<?> ARGUMENT = IllegalArgumentException.class;
    private static final Class<?> STATE = IllegalStateException.class;
    private static final int[] ARRIVALS = {2, 5, 10, 19, 36};
    private static final Check CHECK = new Check("MinuteBoundsTest");

    public static void main(String[] args) {
        CHECK.each(MinuteBoundsTest::timeFromZero, MinuteBoundsTest::wrongMinutes,
            MinuteBoundsTest::deliveredInTheseMinutes, MinuteBoundsTest::manyMinutesAreSingleOnes,
            MinuteBoundsTest::lastMinuteOfFlight, MinuteBoundsTest::crowFreeInSameMinute,
            MinuteBoundsTest::landingInOrderOfCrows, MinuteBoundsTest::napBegunInThisMinute,
            MinuteBoundsTest::lastMinuteOfNap, MinuteBoundsTest::nothingToTake,
            MinuteBoundsTest::takingInOrderOfCrows, MinuteBoundsTest::fliesFromNextMinute,
            MinuteBoundsTest::fewerAttemptsFirst, MinuteBoundsTest::sameAttemptsByIds,
            MinuteBoundsTest::attemptsIncrease, MinuteBoundsTest::lessThanLoss, MinuteBoundsTest::moduloFive,
            MinuteBoundsTest::lostBeforeDuplicate, MinuteBoundsTest::duplicateAtFullInbox,
            MinuteBoundsTest::duplicateAtFifthAttempt, MinuteBoundsTest::eighthAndNinth,
            MinuteBoundsTest::fullInboxRemembersNothing, MinuteBoundsTest::endOfInbox, MinuteBoundsTest::napOrFailure,
            MinuteBoundsTest::fifthAttemptDelivers, MinuteBoundsTest::fifthAttemptLost, MinuteBoundsTest::napLengths,
            MinuteBoundsTest::napLengthsByDoubling, MinuteBoundsTest::wrongNapLengths,
            MinuteBoundsTest::predictionOfNextMinute, MinuteBoundsTest::predictionOfHundredMinutes,
            MinuteBoundsTest::predictionOfDelivered, MinuteBoundsTest::predictionOfOtherEnds,
            MinuteBoundsTest::predictionChangesNothing);
        CHECK.finish();
    }

    private static void timeFromZero() {
        CHECK.sentence("One minute: Time is counted in minutes from 0");
        CrowMail mail = new CrowMail();
        CHECK.same("at first", mail.time(), 0);
        mail.advance(1);
        CHECK.same("34: a minute later", mail.time(), 1);
        mail.advance(100);
        CHECK.same("34: a hundred minutes later", mail.time(), 101);
        CrowMail old = new CrowMail();
        for (int call = 1; call < 512; call++) {
            old.advance(100);
        }
        CHECK.same("the 512th call", old.time(), 51100);
    }

    private static void wrongMinutes() {
        CHECK.sentence("9: if the number of minutes is not between 1 and 100");
        CrowMail mail = Mails.inEveryStatus();
        for (int minutes : Mails.outside(1, 100)) {
            CHECK.refused("minutes " + minutes, mail, ARGUMENT, () -> mail.advance(minutes));
        }
        CHECK.same("1", mail.advance(1), 0);
        mail.advance(100);
        CHECK.same("100", mail.time(), 104);
    }

    private static void deliveredInTheseMinutes() {
        CHECK.sentence("9: the number of messages that are delivered in these minutes");
        CrowMail mail = Mails.with(4, 1, 0, 2, 0);
        CHECK.same("none, without messages", mail.advance(100), 0);
        Mails.publish(mail, 0, 1, 2, 2);
        mail.publish(1, 1);
        CHECK.same("none, all are taken", mail.advance(1), 0);
        CHECK.same("two, and not the duplicate", mail.advance(1), 2);
        CHECK.same("one, and not those from before", mail.advance(1), 1);
        CHECK.same("none is left", mail.advance(100), 0);
        CHECK.same("eight of sixteen, and not those that failed", Mails.full().advance(100), 8);
        CrowMail two = Mails.with(4, 1, 0, 1, 0);
        for (int i = 0; i < 16; i++) {
            two.publish(i % 2, i);
        }
        CHECK.same("all sixteen", two.advance(100), 16);
    }

    private static void manyMinutesAreSingleOnes() {
        CHECK.sentence("9: Lets time pass");
        CrowMail atOnce = Mails.inEveryStatus();
        CrowMail oneByOne = Mails.inEveryStatus();
        for (CrowMail mail : new CrowMail[] {atOnce, oneByOne}) {
            mail.setWind(7);
            Mails.publish(mail, 1, 1, 2, 3, 4);
        }
        atOnce.advance(100);
        for (int minute = 0; minute < 100; minute++) {
            oneByOne.advance(1);
        }
        CHECK.same("a hundred minutes", Picture.of(atOnce), Picture.of(oneByOne));
    }

    private static void lastMinuteOfFlight() {
        CHECK.sentence("One minute: if it was the last one, its message arrives, and the crow is free");
        CrowMail mail = Mails.with(1, 3, 0);
        mail.publish(0, 1);
        mail.advance(3);
        CHECK.same("one minute is left", mail.flightMinutes(0), 1);
        CHECK.same("not arrived", mail.arrivalTotal(), 0);
        mail.advance(1);
        CHECK.same("arrived", mail.arrivalTotal(), 1);
        CHECK.no("free", mail.isFlying(0));
    }

    private static void crowFreeInSameMinute() {
        CHECK.sentence("One minute: Fourth, each free crow - also one that became free in this minute");
        CrowMail mail = Mails.with(1, 1, 0);
        Mails.publish(mail, 0, 1, 2);
        mail.advance(2);
        CHECK.same("the first one arrived", mail.status(0), 'd');
        CHECK.same("the second one flies", mail.status(1), 'f');
        CHECK.same("a whole flight is left", mail.flightMinutes(0), 1);
    }

    /** Crow 1 takes message 1 with a strong wind, crow 0 a minute later message 2 without: both land at minute 5. */
    private static void landingInOrderOfCrows() {
        CHECK.sentence("One minute: for each flying crow, in the order of their indices");
        for (int keyOfSecond : new int[] {5, 6}) {
            CrowMail mail = Mails.with(1, 2, 0);
            mail.publish(0, 1);
            mail.advance(1);
            mail.addCrow();
            mail.setWind(6);
            mail.publish(0, 5);
            mail.advance(1);
            mail.setWind(0);
            mail.publish(0, keyOfSecond);
            mail.advance(1);
            CHECK.same("crow 0 carries the later one", mail.carriedMessage(0) * 10 + mail.carriedMessage(1), 21);
            CHECK.same("both land now", mail.flightMinutes(0) * 10 + mail.flightMinutes(1), 22);
            mail.advance(2);
            CHECK.same("crow 0's message comes first", mail.inboxMessage(0, 1), 2);
            CHECK.same("a duplicate after it is dropped", mail.inboxSize(0), keyOfSecond == 5 ? 2 : 3);
        }
    }

    private static void napBegunInThisMinute() {
        CHECK.sentence("One minute: each napping message that has not begun to nap in this minute");
        CrowMail mail = Mails.with(1, 1, 4);
        mail.publish(0, 1);
        mail.advance(2);
        CHECK.same("no minute of its nap has passed", mail.napMinutes(0), 2);
        mail.advance(1);
        CHECK.same("the first has passed", mail.napMinutes(0), 1);
        CHECK.same("still napping", mail.status(0), 'n');
    }

    private static void lastMinuteOfNap() {
        CHECK.sentence("One minute: if it was the last one, the message is waiting");
        CrowMail mail = Mails.with(1, 1, 4, 9, 0);
        mail.publish(0, 1);
        mail.publish(1, 1);
        mail.advance(3);
        CHECK.same("one minute is left", mail.napMinutes(0), 1);
        mail.advance(1);
        CHECK.same("no crow is free", mail.status(0), 'w');
        CrowMail free = Mails.with(1, 1, 4);
        free.publish(0, 1);
        free.advance(4);
        CHECK.same("a free crow takes it in the same minute", free.status(0), 'f');
        CHECK.same("with a whole flight", free.flightMinutes(0), 1);
    }

    private static void nothingToTake() {
        CHECK.sentence("One minute: takes the first waiting message, if there is one");
        CrowMail mail = Mails.with(4, 9, 0);
        mail.advance(1);
        CHECK.no("no message", mail.isFlying(0));
        mail.publish(0, 1);
        mail.advance(1);
        CHECK.yes("one message", mail.isFlying(0));
        for (int crow = 1; crow < 4; crow++) {
            CHECK.no("none for crow " + crow, mail.isFlying(crow));
        }
        CrowMail napping = Mails.with(1, 1, 4);
        napping.publish(0, 1);
        napping.advance(3);
        CHECK.no("a napping one is not taken", napping.isFlying(0));
        CrowMail delivered = Mails.delivered(1);
        delivered.advance(1);
        CHECK.no("nor is a delivered one", delivered.isFlying(0));
        CrowMail crowless = Mails.with(0, 1, 0);
        crowless.publish(0, 1);
        crowless.advance(100);
        CHECK.same("no crow", crowless.status(0), 'w');
    }

    private static void takingInOrderOfCrows() {
        CHECK.sentence("One minute: each free crow, in the order of their indices");
        CrowMail mail = Mails.full();
        mail.advance(1);
        for (int crow = 0; crow < 4; crow++) {
            CHECK.same("crow " + crow, mail.carriedMessage(crow), crow);
        }
    }

    private static void fliesFromNextMinute() {
        CHECK.sentence("One minute: flies with it from the next minute on");
        CrowMail mail = Mails.with(1, 1, 0);
        mail.publish(0, 1);
        CHECK.same("the minute of the taking is none of its flight", mail.advance(1), 0);
        CHECK.same("the whole flight is left", mail.flightMinutes(0), 1);
        CHECK.same("the next one is", mail.advance(1), 1);
    }

    /** At minute 9 message 0 waits with two attempts, 1 with one, 3 with none, and 2 keeps the crow away. */
    private static void fewerAttemptsFirst() {
        CHECK.sentence("One minute: in the order of their attempts, fewer first");
        CrowMail mail = Mails.with(1, 1, 4, 9, 0);
        mail.publish(0, 1);
        mail.advance(5);
        mail.publish(0, 2);
        mail.publish(1, 1);
        mail.advance(2);
        mail.publish(1, 2);
        mail.advance(2);
        int[] order = {3, 1, 0};
        for (int rank = 0; rank < 3; rank++) {
            CHECK.same("attempts at rank " + rank, mail.attempts(order[rank]), rank);
            CHECK.same("rank " + rank, mail.waitingMessage(rank), order[rank]);
        }
        mail.advance(7);
        CHECK.same("taken first", mail.carriedMessage(0), 3);
        mail.advance(9);
        CHECK.same("taken second", mail.carriedMessage(0), 1);
        mail.advance(1);
        CHECK.same("taken last", mail.carriedMessage(0), 0);
    }

    private static void sameAttemptsByIds() {
        CHECK.sentence("One minute: those with the same number of attempts in the order of their ids");
        CrowMail mail = Mails.with(4, 1, 4, 9, 0);
        Mails.publish(mail, 0, 1, 2, 3);
        mail.advance(2);
        CHECK.same("three naps", mail.status(0) + mail.status(1) + mail.status(2), 3 * 'n');
        Mails.publish(mail, 1, 1, 2, 3, 4);
        mail.advance(2);
        for (int rank = 0; rank < 3; rank++) {
            CHECK.same("rank " + rank, mail.waitingMessage(rank), rank);
        }
    }

    private static void attemptsIncrease() {
        CHECK.sentence("Arrival: When a message arrives, its number of attempts increases by 1");
        CrowMail mail = Mails.with(1, 1, 4);
        mail.setWind(4);
        mail.publish(0, 1);
        for (int attempt = 1; attempt <= 5; attempt++) {
            mail.advance(ARRIVALS[attempt - 1] - 1 - mail.time());
            CHECK.same("before arrival " + attempt, mail.attempts(0), attempt - 1);
            mail.advance(1);
            CHECK.same("arrival " + attempt, mail.attempts(0), attempt);
        }
        CHECK.same("delivered with 5", mail.status(0), 'd');
    }

    /** Message 0 without wind: the sum at its first arrival is 1. */
    private static void lessThanLoss() {
        CHECK.sentence("Arrival: is less than the loss of its nest");
        for (int loss = 0; loss <= 4; loss++) {
            for (int force = 0; force <= 3; force++) {
                CrowMail mail = Mails.with(1, 1, loss);
                mail.setWind(force);
                mail.publish(0, 1);
                mail.advance(2);
                CHECK.same("sum " + (1 + force) + ", loss " + loss, mail.status(0), 1 + force < loss ? 'n' : 'd');
            }
        }
    }

    private static void moduloFive() {
        CHECK.sentence("Arrival: the sum of its id, its attempts and the force of the wind, modulo 5");
        for (int id = 0; id < 12; id++) {
            for (int force = 0; force <= 9; force++) {
                CrowMail mail = Mails.with(1, 1, 1);
                for (int earlier = 0; earlier < id; earlier++) {
                    mail.cancel(mail.publish(0, 1));
                }
                mail.publish(0, 1);
                mail.setWind(force);
                mail.advance(force > 5 ? 3 : 2);
                int sum = id + 1 + force;
                CHECK.same("sum " + sum, mail.status(id), sum % 5 == 0 ? 'n' : 'd');
            }
        }
    }

    private static void lostBeforeDuplicate() {
        CHECK.sentence("Arrival: If it is not lost and its nest remembers its key");
        CrowMail mail = Mails.with(1, 1, 1);
        mail.publish(0, 7);
        mail.advance(2);
        CHECK.yes("the key is remembered", mail.remembers(0, 7));
        mail.publish(0, 7);
        mail.setWind(3);
        mail.advance(2);
        CHECK.same("a lost one naps", mail.status(1), 'n');
        CHECK.same("and is no duplicate", mail.duplicateTotal(), 0);
        mail.advance(3);
        CHECK.same("until it arrives", mail.duplicateTotal(), 1);
    }

    private static void duplicateAtFullInbox() {
        CHECK.sentence("Arrival: it is dropped as a duplicate, also before a full inbox");
        CrowMail mail = Mails.delivered(8);
        mail.publish(0, 7);
        mail.advance(2);
        CHECK.same("dropped", mail.duplicateTotal(), 1);
        CHECK.same("it does not nap", mail.messageCount(), 8);
    }

    /** With loss 4 and force 3, message 0 comes through at once and message 1 at its fifth attempt. */
    private static void duplicateAtFifthAttempt() {
        CHECK.sentence("Arrival: it is dropped as a duplicate, also with 5 attempts");
        CrowMail mail = Mails.with(1, 1, 4);
        mail.setWind(3);
        mail.publish(0, 7);
        mail.advance(2);
        CHECK.same("the first", mail.status(0), 'd');
        mail.publish(0, 7);
        mail.advance(35);
        CHECK.same("four attempts", mail.attempts(1), 4);
        mail.advance(1);
        CHECK.same("dropped", mail.duplicateTotal(), 1);
        CHECK.same("not failed", mail.failedTotal(), 0);
    }

    private static void eighthAndNinth() {
        CHECK.sentence("Arrival: the inbox of its nest has fewer than 8 messages");
        CrowMail mail = Mails.delivered(7);
        mail.publish(0, 50);
        mail.advance(2);
        CHECK.same("7 are in it", mail.status(7), 'd');
        mail.publish(0, 51);
        mail.advance(2);
        CHECK.same("8 are in it", mail.status(8), 'n');
        mail.read(0);
        mail.advance(3);
        CHECK.same("7 are in it again", mail.status(8), 'd');
    }

    private static void fullInboxRemembersNothing() {
        CHECK.sentence("Arrival: it is delivered: the nest remembers its key");
        CrowMail mail = Mails.delivered(8);
        mail.publish(0, 50);
        mail.advance(2);
        CHECK.no("before a full inbox it does not", mail.remembers(0, 50));
        CHECK.yes("and forgets none for it", mail.remembers(0, 0));
        mail.read(0);
        mail.advance(3);
        CHECK.yes("once it is delivered", mail.remembers(0, 50));
        CHECK.no("the oldest goes for it", mail.remembers(0, 0));
        CrowMail lossy = Mails.with(1, 1, 4);
        lossy.publish(0, 50);
        lossy.advance(2);
        CHECK.no("a lost one's key is not remembered", lossy.remembers(0, 50));
    }

    private static void endOfInbox() {
        CHECK.sentence("Arrival: it is put at the end of the inbox");
        CrowMail mail = Mails.delivered(8);
        mail.read(0);
        mail.read(0);
        Mails.publish(mail, 0, 60, 61);
        mail.advance(3);
        for (int position = 0; position < 8; position++) {
            CHECK.same("position " + position, mail.inboxMessage(0, position), position + 2);
        }
    }

    private static void napOrFailure() {
        CHECK.sentence("Arrival: it fails if it has 5 attempts, and otherwise it naps; 2 to the power of its attempts");
        CrowMail mail = Mails.delivered(8);
        int start = mail.time();
        mail.publish(0, 50);
        for (int attempt = 1; attempt <= 4; attempt++) {
            mail.advance(start + ARRIVALS[attempt - 1] - mail.time());
            CHECK.same("naps after " + attempt, mail.status(8), 'n');
            CHECK.same("length after " + attempt, mail.napMinutes(8), 1 << attempt);
        }
        mail.advance(start + ARRIVALS[4] - 1 - mail.time());
        CHECK.same("not failed yet", mail.failedTotal(), 0);
        mail.advance(1);
        CHECK.same("failed", mail.failedTotal(), 1);
        CHECK.same("it has gone", mail.messageCount(), 8);
    }

    private static void fifthAttemptDelivers() {
        CHECK.sentence("Arrival: In all other cases, it fails - but not if the fifth attempt is none of them");
        CrowMail mail = Mails.delivered(8);
        int start = mail.time();
        mail.publish(0, 50);
        mail.advance(35);
        mail.read(0);
        CHECK.same("room for it at the last attempt", mail.advance(1), 1);
        CHECK.same("time", mail.time(), start + ARRIVALS[4]);
        CHECK.same("delivered with 5", mail.attempts(8), 5);
        CHECK.same("not failed", mail.failedTotal(), 0);
    }

    /** Without wind message 0 would come through at its fourth attempt; a wind of 1 from then on keeps it lost. */
    private static void fifthAttemptLost() {
        CHECK.sentence("Arrival: it fails if it has 5 attempts, also if it is lost");
        CrowMail mail = Mails.with(1, 1, 4);
        mail.publish(0, 1);
        mail.advance(10);
        mail.setWind(1);
        mail.advance(25);
        CHECK.same("four attempts", mail.attempts(0), 4);
        mail.advance(1);
        CHECK.same("failed", mail.failedTotal(), 1);
        CHECK.same("it has gone", mail.messageCount(), 0);
        CHECK.same("five arrivals", mail.arrivalTotal(), 5);
    }

    private static void napLengths() {
        CHECK.sentence("31: the length of the nap after a number of attempts");
        CrowMail mail = new CrowMail();
        CHECK.same("the least number", mail.napLength(0), 1L);
        CHECK.same("the greatest number", mail.napLength(40), 1099511627776L);
        for (int attempts = 1; attempts <= 40; attempts++) {
            CHECK.same(attempts + " attempts", mail.napLength(attempts), 2 * mail.napLength(attempts - 1));
        }
    }

    private static void napLengthsByDoubling() {
        CHECK.sentence("32: Returns the same number as napLength, found by doubling");
        CrowMail mail = new CrowMail();
        CHECK.same("the least number", mail.napLengthByDoubling(0), 1L);
        CHECK.same("the greatest number", mail.napLengthByDoubling(40), 1099511627776L);
        for (int attempts = 0; attempts <= 40; attempts++) {
            CHECK.same(attempts + " attempts", mail.napLengthByDoubling(attempts), mail.napLength(attempts));
        }
    }

    private static void wrongNapLengths() {
        CrowMail mail = Mails.inEveryStatus();
        for (int attempts : Mails.outside(0, 40)) {
            CHECK.sentence("31: if the number of attempts is not between 0 and 40");
            CHECK.refused(attempts + " attempts", mail, ARGUMENT, () -> mail.napLength(attempts));
            CHECK.sentence("32: if the number of attempts is not between 0 and 40");
            CHECK.refused(attempts + " attempts", mail, ARGUMENT, () -> mail.napLengthByDoubling(attempts));
        }
    }

    private static void predictionOfNextMinute() {
        CHECK.sentence("33: after how many minutes a message is delivered");
        CrowMail mail = Mails.with(1, 1, 0);
        mail.publish(0, 1);
        CHECK.same("waiting", mail.minutesUntilDelivered(0), 2);
        mail.advance(1);
        CHECK.same("the next minute", mail.minutesUntilDelivered(0), 1);
        CrowMail napping = Mails.with(1, 1, 4);
        napping.setWind(2);
        napping.publish(0, 1);
        napping.advance(2);
        CHECK.same("napping", napping.minutesUntilDelivered(0), 3);
    }

    /** With one crow and distance 9, the k-th message is delivered after 1 + 9 k minutes, the 11th after 100. */
    private static void predictionOfHundredMinutes() {
        CHECK.sentence("33: or would not be delivered within 100 minutes");
        CrowMail mail = Mails.with(1, 9, 0, 9, 0);
        Mails.publish(mail, 0, 0, 1, 2, 3, 4, 5, 6, 7);
        Mails.publish(mail, 1, 0, 1, 2, 3);
        CHECK.same("100 minutes", mail.minutesUntilDelivered(10), 100);
        CHECK.refused("109 minutes", mail, STATE, () -> mail.minutesUntilDelivered(11));
        mail.advance(8);
        CHECK.refused("101 minutes", mail, STATE, () -> mail.minutesUntilDelivered(11));
        mail.advance(1);
        CHECK.same("100 minutes now", mail.minutesUntilDelivered(11), 100);
        CHECK.same("all the others", mail.advance(99), 11);
        CHECK.same("with the last minute", mail.advance(1), 1);
    }

    private static void predictionOfDelivered() {
        CHECK.sentence("33: if the message is delivered now");
        CrowMail mail = Mails.inEveryStatus();
        CHECK.refused("delivered", mail, STATE, () -> mail.minutesUntilDelivered(0));
        CrowMail just = Mails.with(1, 1, 0);
        just.publish(0, 1);
        just.advance(2);
        CHECK.refused("just delivered", just, STATE, () -> just.minutesUntilDelivered(0));
    }

    private static void predictionOfOtherEnds() {
        CHECK.sentence("33: would not be delivered");
        CrowMail twice = Mails.with(1, 1, 0);
        Mails.publish(twice, 0, 1, 1);
        CHECK.refused("it will be a duplicate", twice, STATE, () -> twice.minutesUntilDelivered(1));
        CrowMail full = Mails.delivered(8);
        full.publish(0, 50);
        CHECK.refused("it will fail", full, STATE, () -> full.minutesUntilDelivered(8));
        full.read(0);
        CHECK.same("it will not", full.minutesUntilDelivered(8), 2);
        CrowMail crowless = Mails.with(0, 1, 0);
        crowless.publish(0, 1);
        CHECK.refused("it will wait", crowless, STATE, () -> crowless.minutesUntilDelivered(0));
    }

    private static void predictionChangesNothing() {
        CHECK.sentence("Predictions: It does not change the state");
        CrowMail asked = Mails.inEveryStatus();
        CrowMail other = Mails.inEveryStatus();
        for (int message = -1; message <= 4; message++) {
            int id = message;
            Check.thrownBy(() -> asked.minutesUntilDelivered(id));
            Check.thrownBy(() -> asked.wouldBeLost(id));
        }
        CHECK.same("at once", Picture.of(asked), Picture.of(other));
        CHECK.same("changes to undo", asked.undo(), other.undo());
        CHECK.same("before the last change", Picture.of(asked), Picture.of(other));
        asked.advance(50);
        other.advance(50);
        CHECK.same("later", Picture.of(asked), Picture.of(other));
    }
}
