/** Promises 34 to 47: totals, means and the check of the state. */
public final class TotalsTest {
    private static final Class<?> ARITHMETIC = ArithmeticException.class;
    private static final Check CHECK = new Check("TotalsTest");

    public static void main(String[] args) {
        CHECK.each(TotalsTest::totals, TotalsTest::noMean, TotalsTest::noRate, TotalsTest::means, TotalsTest::rates,
            TotalsTest::fullHouse);
        CHECK.finish();
    }

    private static void totals() {
        CrowMail mail = Mails.with(1, 1, 0, 1, 4);
        told(mail, "at first", 0, 0, 0, 0, 0, 0, 0);
        Mails.publish(mail, 0, 1, 1, 2);
        told(mail, "published", 3, 0, 0, 0, 0, 0, 3);
        mail.advance(3);
        told(mail, "one there, one dropped", 3, 1, 0, 1, 0, 2, 2);
        mail.read(0);
        told(mail, "read", 3, 1, 1, 1, 0, 2, 1);
        mail.advance(1);
        told(mail, "two there", 3, 2, 1, 1, 0, 3, 1);
        mail.publish(1, 1);
        mail.cancel(3);
        told(mail, "cancelled", 4, 2, 1, 1, 0, 3, 1);
        mail.setWind(1);
        mail.publish(1, 1);
        mail.advance(2);
        told(mail, "lost", 5, 2, 1, 1, 0, 4, 2);
        for (int force = 0; mail.failedTotal() == 0 && force < 100; force++) {
            mail.setWind(mail.wouldBeLost(4) ? mail.wind() : (mail.wind() + 1) % 5);
            mail.advance(1);
        }
        told(mail, "failed", 5, 2, 1, 1, 1, 8, 1);
        CHECK.same("34: time", mail.time() > 30, true);
    }

    private static void told(CrowMail mail, String what, int... due) {
        CHECK.same("36: " + what, mail.publishedTotal(), due[0]);
        CHECK.same("37: " + what, mail.deliveredTotal(), due[1]);
        CHECK.same("38: " + what, mail.readTotal(), due[2]);
        CHECK.same("39: " + what, mail.duplicateTotal(), due[3]);
        CHECK.same("40: " + what, mail.failedTotal(), due[4]);
        CHECK.same("41: " + what, mail.arrivalTotal(), due[5]);
        CHECK.same("42: " + what, mail.messageCountByTotals(), due[6]);
        CHECK.same("22: " + what, mail.messageCount(), due[6]);
        CHECK.yes("47: " + what, mail.isConsistent());
    }

    private static void noMean() {
        CrowMail mail = Mails.with(1, 1, 0);
        CHECK.refused("43: no messages", mail, ARITHMETIC, () -> mail.meanAttempts());
        CHECK.refused("44: no messages", mail, ARITHMETIC, () -> mail.meanAttemptsBits());
        mail.publish(0, 1);
        CHECK.same("43: none attempted", mail.meanAttempts(), 0.0);
        CHECK.same("44: none attempted", mail.meanAttemptsBits(), 0L);
        mail.cancel(0);
        CHECK.refused("43: none left", mail, ARITHMETIC, () -> mail.meanAttempts());
        CHECK.refused("44: none left", mail, ARITHMETIC, () -> mail.meanAttemptsBits());
    }

    private static void noRate() {
        CrowMail mail = Mails.with(1, 1, 4);
        mail.publish(0, 1);
        mail.advance(1);
        CHECK.refused("45: no arrivals", mail, ARITHMETIC, () -> mail.deliveryRate());
        CHECK.refused("46: no arrivals", mail, ARITHMETIC, () -> mail.deliveryRateBits());
        mail.advance(1);
        CHECK.same("45: none delivered", mail.deliveryRate(), 0f);
        CHECK.same("46: none delivered", mail.deliveryRateBits(), 0);
    }

    /** Every mean of 1 to 16 messages that comes along is told with its bits. */
    private static void means() {
        CrowMail mail = Mails.with(2, 1, 3);
        for (int round = 0; round < 60; round++) {
            if (mail.messageCount() < 16 && round % 3 == 0) {
                mail.publish(0, round);
            }
            mail.advance(2);
            if (mail.inboxSize(0) > 4) {
                mail.read(0);
            }
            double due = (double) attemptsOfAll(mail) / (double) mail.messageCount();
            CHECK.same("43: mean", mail.meanAttempts(), due);
            CHECK.same("44: bits", mail.meanAttemptsBits(), Double.doubleToLongBits(due));
        }
    }

    private static int attemptsOfAll(CrowMail mail) {
        int sum = 0;
        for (int position = 0; position < mail.messageCount(); position++) {
            sum += mail.attempts(mail.messageAt(position));
        }
        return sum;
    }

    private static void rates() {
        CrowMail mail = Mails.with(3, 1, 2, 2, 4, 1, 0);
        for (int round = 0; round < 150; round++) {
            if (mail.messageCount() < 16) {
                mail.publish(round % 3, round % 100);
            }
            mail.advance(3);
            if (mail.inboxSize(round % 3) > 6) {
                mail.read(round % 3);
            }
            float due = (float) mail.deliveredTotal() / (float) mail.arrivalTotal();
            CHECK.same("45: rate", mail.deliveryRate(), due);
            CHECK.same("46: bits", mail.deliveryRateBits(), Float.floatToIntBits(due));
            CHECK.yes("47: consistent", mail.isConsistent());
        }
    }

    /** All nests, crows and messages that there may be, on their ways and at their ends. */
    private static void fullHouse() {
        CrowMail mail = Mails.with(4, 1, 0, 2, 1, 3, 2, 4, 3, 5, 4, 6, 0);
        for (int i = 0; i < 16; i++) {
            mail.publish(i % 6, i);
        }
        for (int minute = 0; minute < 60; minute++) {
            CHECK.yes("47: minute " + minute, mail.isConsistent());
            CHECK.same("42: minute " + minute, mail.messageCountByTotals(), mail.messageCount());
            mail.advance(1);
        }
        CHECK.yes("37: some were delivered", mail.deliveredTotal() > 8);
    }
}
