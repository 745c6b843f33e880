/** The sentences of the document that name an edge of totals, means and rates (promises 36 to 47). */
public final class TotalsBoundsTest {
    private static final Class<?> ARITHMETIC = ArithmeticException.class;
    private static final Check CHECK = new Check("TotalsBoundsTest");

    public static void main(String[] args) {
        CHECK.each(TotalsBoundsTest::nothingSoFar, TotalsBoundsTest::published, TotalsBoundsTest::delivered,
            TotalsBoundsTest::read, TotalsBoundsTest::duplicates, TotalsBoundsTest::failed,
            TotalsBoundsTest::arrivals, TotalsBoundsTest::countByTotals, TotalsBoundsTest::meanWithoutMessages,
            TotalsBoundsTest::means, TotalsBoundsTest::rateWithoutArrivals, TotalsBoundsTest::rates,
            TotalsBoundsTest::consistent);
        CHECK.finish();
    }

    private static void nothingSoFar() {
        CHECK.sentence("36 to 42: so far");
        CrowMail mail = Mails.with(4, 1, 0);
        mail.advance(100);
        CHECK.same("published", mail.publishedTotal(), 0);
        CHECK.same("delivered", mail.deliveredTotal(), 0);
        CHECK.same("read", mail.readTotal(), 0);
        CHECK.same("duplicates", mail.duplicateTotal(), 0);
        CHECK.same("failed", mail.failedTotal(), 0);
        CHECK.same("arrivals", mail.arrivalTotal(), 0);
        CHECK.same("messages by totals", mail.messageCountByTotals(), 0);
    }

    private static void published() {
        CHECK.sentence("36: the number of messages that have been published so far");
        CrowMail mail = Mails.full();
        CHECK.same("sixteen", mail.publishedTotal(), 16);
        Check.thrownBy(() -> mail.publish(0, 1));
        CHECK.same("a refused one does not count", mail.publishedTotal(), 16);
        mail.cancel(0);
        mail.advance(100);
        mail.read(0);
        CHECK.same("those that ceased count", mail.publishedTotal(), 16);
        mail.publish(0, 1);
        CHECK.same("more than may exist", mail.publishedTotal(), 17);
    }

    private static void delivered() {
        CHECK.sentence("37: the number of messages that have been delivered so far");
        CrowMail mail = Mails.delivered(8);
        CHECK.same("eight", mail.deliveredTotal(), 8);
        mail.publish(0, 50);
        mail.publish(0, 0);
        mail.advance(100);
        CHECK.same("not a duplicate, nor a failed one", mail.deliveredTotal(), 8);
        mail.read(0);
        CHECK.same("a read one", mail.deliveredTotal(), 8);
        mail.publish(0, 51);
        mail.advance(2);
        CHECK.same("more than an inbox holds", mail.deliveredTotal(), 9);
    }

    private static void read() {
        CHECK.sentence("38: the number of messages that have been read so far");
        CrowMail mail = Mails.delivered(2);
        CHECK.same("none", mail.readTotal(), 0);
        for (int count = 1; count <= 2; count++) {
            mail.read(0);
            CHECK.same("so many", mail.readTotal(), count);
        }
        Check.thrownBy(() -> mail.read(0));
        CHECK.same("a refused reading does not count", mail.readTotal(), 2);
    }

    private static void duplicates() {
        CHECK.sentence("39: the number of messages that have been dropped as duplicates so far");
        CrowMail mail = Mails.delivered(1);
        for (int count = 1; count <= 10; count++) {
            mail.publish(0, 0);
            mail.advance(1);
            CHECK.same("flying", mail.duplicateTotal(), count - 1);
            mail.advance(1);
            CHECK.same("dropped", mail.duplicateTotal(), count);
        }
        mail.forget(0);
        mail.publish(0, 0);
        mail.advance(2);
        CHECK.same("delivered", mail.duplicateTotal(), 10);
    }

    private static void failed() {
        CHECK.sentence("40: the number of messages that have failed so far");
        CrowMail mail = Mails.delivered(8);
        Mails.publish(mail, 0, 50, 51, 52, 53, 54, 55, 56, 57);
        mail.advance(30);
        CHECK.same("none yet", mail.failedTotal(), 0);
        mail.cancel(15);
        mail.advance(100);
        CHECK.same("all but the cancelled one", mail.failedTotal(), 7);
    }

    private static void arrivals() {
        CHECK.sentence("41: the number of arrivals so far");
        CrowMail mail = Mails.with(1, 1, 0, 1, 4);
        mail.publish(0, 1);
        mail.advance(1);
        CHECK.same("flying", mail.arrivalTotal(), 0);
        mail.advance(1);
        CHECK.same("delivered", mail.arrivalTotal(), 1);
        mail.publish(0, 1);
        mail.advance(2);
        CHECK.same("a duplicate", mail.arrivalTotal(), 2);
        mail.publish(1, 1);
        mail.advance(2);
        CHECK.same("lost", mail.arrivalTotal(), 3);
        mail.cancel(2);
        CHECK.same("a cancelled one's arrival stays", mail.arrivalTotal(), 3);
        CrowMail full = Mails.delivered(8);
        full.publish(0, 50);
        full.advance(100);
        CHECK.same("each of the five of one that failed", full.arrivalTotal(), 13);
    }

    private static void countByTotals() {
        CHECK.sentence("42: the published messages minus those that were read, dropped as duplicates, failed or"
            + " cancelled");
        CrowMail mail = Mails.delivered(8);
        mail.publish(0, 0);
        mail.publish(0, 50);
        mail.publish(0, 51);
        CHECK.same("published", mail.messageCountByTotals(), 11);
        mail.cancel(10);
        CHECK.same("one cancelled", mail.messageCountByTotals(), 10);
        mail.advance(2);
        CHECK.same("one dropped", mail.messageCountByTotals(), 9);
        mail.advance(98);
        CHECK.same("one failed", mail.messageCountByTotals(), 8);
        for (int left = 7; left >= 0; left--) {
            mail.read(0);
            CHECK.same("one read", mail.messageCountByTotals(), left);
        }
        CHECK.same("sixteen", Mails.full().messageCountByTotals(), 16);
    }

    private static void meanWithoutMessages() {
        CrowMail cancelled = Mails.with(0, 1, 0);
        cancelled.cancel(cancelled.publish(0, 1));
        CrowMail read = Mails.delivered(1);
        read.read(0);
        for (CrowMail mail : new CrowMail[] {new CrowMail(), cancelled, read}) {
            CHECK.sentence("43: if there are no messages");
            CHECK.refused("the mean", mail, ARITHMETIC, () -> mail.meanAttempts());
            CHECK.sentence("44: if there are no messages");
            CHECK.refused("the bits", mail, ARITHMETIC, () -> mail.meanAttemptsBits());
        }
    }

    private static void means() {
        mean("none has an attempt", Mails.full(), 0, 16);
        mean("one of one", Mails.delivered(1), 1, 1);
        mean("two of four", Mails.inEveryStatus(), 2, 4);
        CrowMail sixth = Mails.delivered(1);
        Mails.publish(sixth, 0, 1, 2, 3, 4, 5);
        mean("one of six", sixth, 1, 6);
        CrowMail third = Mails.delivered(2);
        third.publish(0, 50);
        mean("two of three", third, 2, 3);
        CrowMail most = Mails.with(1, 1, 4);
        most.setWind(4);
        most.publish(0, 1);
        most.advance(100);
        mean("five of one", most, 5, 1);
        CrowMail last = Mails.delivered(1);
        Mails.publish(last, 0, 1, 2, 3, 4, 5, 6, 7, 8, 9, 10, 11, 12, 13, 14, 15);
        mean("one of sixteen", last, 1, 16);
    }

    private static void mean(String what, CrowMail mail, int sum, int count) {
        double due = (double) sum / (double) count;
        CHECK.sentence("43: the sum divided by their number, both converted to double");
        CHECK.same(what, Check.thrownBy(mail::meanAttempts), "answered " + due);
        CHECK.sentence("44: the result of Double.doubleToLongBits for the mean number");
        CHECK.same(what, Check.thrownBy(mail::meanAttemptsBits), "answered " + Double.doubleToLongBits(due));
    }

    private static void rateWithoutArrivals() {
        CrowMail flying = Mails.with(1, 1, 0);
        flying.publish(0, 1);
        flying.advance(1);
        CrowMail undone = Mails.with(1, 1, 0);
        undone.publish(0, 1);
        undone.advance(2);
        undone.undo();
        for (CrowMail mail : new CrowMail[] {new CrowMail(), flying, undone}) {
            CHECK.sentence("45: if there were no arrivals");
            CHECK.refused("the rate", mail, ARITHMETIC, () -> mail.deliveryRate());
            CHECK.sentence("46: if there were no arrivals");
            CHECK.refused("the bits", mail, ARITHMETIC, () -> mail.deliveryRateBits());
        }
    }

    private static void rates() {
        CrowMail lost = Mails.with(1, 1, 4);
        lost.publish(0, 1);
        lost.advance(2);
        rate("none of one", lost, 0, 1);
        rate("all of eight", Mails.delivered(8), 8, 8);
        rate("one of two", Mails.inEveryStatus(), 1, 2);
        CrowMail failed = Mails.delivered(8);
        failed.publish(0, 50);
        failed.advance(100);
        rate("eight of thirteen", failed, 8, 13);
        CrowMail gone = Mails.delivered(1);
        gone.publish(0, 0);
        gone.publish(0, 0);
        gone.advance(3);
        gone.read(0);
        rate("one of three, though none is left", gone, 1, 3);
    }

    private static void rate(String what, CrowMail mail, int deliveries, int arrivals) {
        float due = (float) deliveries / (float) arrivals;
        CHECK.sentence("45: the number of delivered messages divided by the number of arrivals");
        CHECK.same(what, Check.thrownBy(mail::deliveryRate), "answered " + due);
        CHECK.sentence("46: the result of Float.floatToIntBits for the share");
        CHECK.same(what, Check.thrownBy(mail::deliveryRateBits), "answered " + Float.floatToIntBits(due));
    }

    private static void consistent() {
        CHECK.sentence("47: true if all of this holds");
        CHECK.yes("a new object", new CrowMail().isConsistent());
        CHECK.yes("in every status", Mails.inEveryStatus().isConsistent());
        CrowMail mail = Mails.delivered(8);
        CHECK.yes("a full inbox", mail.isConsistent());
        mail.publish(0, 0);
        mail.publish(0, 50);
        mail.publish(0, 51);
        mail.cancel(10);
        for (int minute = 0; minute < 50; minute++) {
            mail.advance(1);
            CHECK.yes("minute " + minute, mail.isConsistent());
        }
        while (mail.inboxSize(0) > 0) {
            mail.read(0);
            CHECK.yes("after a reading", mail.isConsistent());
        }
        CrowMail full = Mails.full();
        CHECK.yes("sixteen wait", full.isConsistent());
        full.advance(1);
        CHECK.yes("four fly", full.isConsistent());
    }
}
