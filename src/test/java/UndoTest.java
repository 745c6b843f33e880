import java.util.NoSuchElementException;

/** Promises 55 to 57: undo and the snapshot. */
public final class UndoTest {
    private static final Class<?> ELEMENT = NoSuchElementException.class;
    private static final Class<?> STATE = IllegalStateException.class;
    private static final Check CHECK = new Check("UndoTest");

    public static void main(String[] args) {
        CHECK.each(UndoTest::everyChange, UndoTest::lateNest, UndoTest::inboxAndKeys, UndoTest::droppedAndFailed,
            UndoTest::eightChanges, UndoTest::afterUndo, UndoTest::idleChanges, UndoTest::refusedChanges,
            UndoTest::reusedIds, UndoTest::snapshot, UndoTest::snapshotIsKept, UndoTest::snapshotOfOtherNests);
        CHECK.finish();
    }

    /** Each step is undone to the very state before it. */
    private static void everyChange() {
        CrowMail mail = new CrowMail();
        Runnable[] steps = {
            () -> mail.addNest(2, 0), () -> mail.addCrow(), () -> mail.publish(0, 1), () -> mail.publish(0, 2),
            () -> mail.advance(1), () -> mail.setWind(7), () -> mail.cancel(1), () -> mail.advance(2),
            () -> mail.publish(0, 1), () -> mail.advance(3), () -> mail.read(0), () -> mail.forget(0),
            () -> mail.advance(100), () -> Mails.run(mail, "nest 1 4;crow;send 1 5;wait 20"), () -> mail.advance(1)};
        for (Runnable step : steps) {
            String before = Picture.of(mail);
            step.run();
            String after = Picture.of(mail);
            CHECK.no("55: the step does something", before.equals(after));
            mail.undo();
            CHECK.same("55: undone", Picture.of(mail), before);
            step.run();
            CHECK.same("55: done again", Picture.of(mail), after);
        }
    }

    private static void lateNest() {
        CrowMail mail = Mails.with(1, 1, 0);
        mail.publish(0, 1);
        mail.advance(2);
        undone(mail, "a nest", () -> mail.addNest(3, 2));
        undone(mail, "a crow", () -> mail.addCrow());
        mail.addNest(4, 4);
        CHECK.same("55: another nest in its place", mail.distance(1) * 10 + mail.loss(1), 44);
    }

    /** The order of the inbox and of the keys comes back, not only how many there are. */
    private static void inboxAndKeys() {
        CrowMail mail = Mails.with(4, 1, 0);
        Mails.publish(mail, 0, 10, 11, 12, 13, 14, 15, 16, 17);
        mail.advance(4);
        undone(mail, "a reading", () -> mail.read(0));
        undone(mail, "a forgetting", () -> mail.forget(0));
        mail.read(0);
        mail.publish(0, 18);
        undone(mail, "a forgotten oldest key", () -> mail.advance(2));
        Mails.run(mail, "forget 0;send 0 18");
        undone(mail, "other keys", () -> mail.advance(3));
        mail.undo();
        mail.advance(2);
        CHECK.no("55: the oldest key is the same as before", mail.remembers(0, 10));
        CHECK.yes("55: and the second oldest too", mail.remembers(0, 11));
        for (int id = 1; id <= 8; id++) {
            CHECK.same("55: the inbox has its order", mail.read(0), id);
        }
    }

    private static void droppedAndFailed() {
        CrowMail mail = Mails.with(1, 1, 0);
        Mails.publish(mail, 0, 0, 1, 2, 3, 4, 5, 6, 7, 7, 8);
        mail.advance(9);
        undone(mail, "a duplicate", () -> mail.advance(1));
        mail.advance(20);
        CHECK.same("39: one duplicate", mail.duplicateTotal(), 1);
        undone(mail, "a failure", () -> mail.advance(100));
        mail.save();
        mail.advance(100);
        CHECK.same("40: one failed", mail.failedTotal(), 1);
        mail.restore();
        CHECK.same("57: none failed", mail.failedTotal(), 0);
        CHECK.yes("47: consistent", mail.isConsistent());
    }

    private static void undone(CrowMail mail, String what, Runnable change) {
        String before = Picture.of(mail);
        change.run();
        CHECK.no("55: " + what + " is seen", Picture.of(mail).equals(before));
        mail.undo();
        CHECK.same("55: " + what, Picture.of(mail), before);
        CHECK.yes("47: after " + what, mail.isConsistent());
    }

    private static void eightChanges() {
        CrowMail mail = new CrowMail();
        CHECK.refused("55: nothing yet", mail, ELEMENT, () -> mail.undo());
        for (int i = 1; i <= 20; i++) {
            mail.advance(1);
        }
        for (int i = 7; i >= 0; i--) {
            CHECK.same("55: changes left", mail.undo(), i);
            CHECK.same("55: time", mail.time(), 12 + i);
        }
        CHECK.refused("55: only eight", mail, ELEMENT, () -> mail.undo());
    }

    private static void afterUndo() {
        CrowMail mail = new CrowMail();
        for (int i = 1; i <= 10; i++) {
            mail.advance(10);
        }
        CHECK.same("55: first", mail.undo(), 7);
        CHECK.same("55: second", mail.undo(), 6);
        mail.setWind(3);
        CHECK.same("55: the new change", mail.undo(), 6);
        CHECK.same("55: wind", mail.wind(), 0);
        CHECK.same("55: time", mail.time(), 80);
        for (int i = 0; i < 5; i++) {
            mail.advance(1);
        }
        for (int i = 7; i >= 3; i--) {
            CHECK.same("55: new ones", mail.undo(), i);
        }
        CHECK.same("55: time before them", mail.time(), 80);
        CHECK.same("55: an old one", mail.undo(), 2);
        CHECK.same("55: time before it", mail.time(), 70);
    }

    private static void idleChanges() {
        CrowMail mail = Mails.with(0, 1, 0);
        mail.setWind(0);
        mail.forget(0);
        Mails.run(mail, "wind 0;forget 0");
        mail.nestCount();
        mail.renderCrows();
        mail.save();
        CHECK.same("55: a script is one change", mail.undo(), 3);
        CHECK.same("55: forget is one", mail.undo(), 2);
        CHECK.same("55: setWind is one", mail.undo(), 1);
        CHECK.same("55: the nest", mail.undo(), 0);
        CHECK.same("55: no nest", mail.nestCount(), 0);
    }

    private static void refusedChanges() {
        CrowMail mail = Mails.with(4, 1, 0);
        Check.Call[] wrong = {
            () -> mail.addNest(0, 0), () -> mail.addCrow(), () -> mail.publish(1, 0), () -> mail.publish(0, 100),
            () -> mail.read(0), () -> mail.cancel(0), () -> mail.setWind(10), () -> mail.forget(1),
            () -> mail.advance(0), () -> mail.runScript(), () -> mail.restore()};
        for (int i = 0; i < 8; i++) {
            mail.advance(1);
        }
        for (Check.Call call : wrong) {
            Check.thrownBy(call);
        }
        CHECK.same("55: refused calls are no changes", mail.undo(), 7);
        CHECK.same("55: the latest change", mail.time(), 7);
        for (int i = 6; i >= 0; i--) {
            for (Check.Call call : wrong) {
                Check.thrownBy(call);
            }
            CHECK.same("55: the next", mail.undo(), i);
            CHECK.same("55: time", mail.time(), i);
        }
    }

    private static void reusedIds() {
        CrowMail mail = Mails.with(0, 1, 0);
        mail.publish(0, 1);
        mail.publish(0, 2);
        mail.undo();
        CHECK.same("55: the next id is undone", mail.publish(0, 3), 1);
        mail.save();
        mail.publish(0, 4);
        mail.restore();
        CHECK.same("57: the next id is restored", mail.publish(0, 5), 2);
        CHECK.same("25: with its own key", mail.keyOf(2), 5);
    }

    private static void snapshot() {
        CrowMail mail = Mails.with(2, 2, 0, 1, 3);
        CHECK.refused("57: no snapshot", mail, STATE, () -> mail.restore());
        Mails.publish(mail, 0, 1, 2, 3);
        Mails.publish(mail, 1, 1, 2);
        mail.advance(6);
        mail.read(0);
        String before = Picture.of(mail);
        CHECK.same("56: messages", mail.save(), mail.messageCount());
        CHECK.same("56: it changes nothing", Picture.of(mail), before);
        mail.advance(20);
        mail.setWind(8);
        mail.addNest(9, 4);
        mail.addCrow();
        mail.forget(0);
        Mails.publish(mail, 2, 9, 8, 7);
        CHECK.same("57: messages", mail.restore(), 4);
        CHECK.same("57: the state", Picture.of(mail), before);
        CHECK.refused("57: nothing to undo", mail, ELEMENT, () -> mail.undo());
        mail.advance(1);
        CHECK.same("57: a later change can be undone", mail.undo(), 0);
        CHECK.same("57: to the restored state", Picture.of(mail), before);
    }

    private static void snapshotIsKept() {
        CrowMail mail = Mails.with(1, 1, 0);
        mail.publish(0, 1);
        CHECK.same("56: one message", mail.save(), 1);
        mail.advance(2);
        CHECK.same("57: first", mail.restore(), 1);
        CHECK.same("57: time", mail.time(), 0);
        mail.advance(5);
        mail.publish(0, 2);
        CHECK.same("57: again", mail.restore(), 1);
        CHECK.same("57: time again", mail.time(), 0);
        mail.advance(3);
        mail.read(0);
        CHECK.same("56: replaced", mail.save(), 0);
        CHECK.same("55: save is no change", mail.undo(), 1);
        CHECK.same("55: undone", mail.messageCount(), 1);
        CHECK.same("57: undo leaves the snapshot", mail.restore(), 0);
        CHECK.same("57: the newer one", mail.time(), 3);
        CrowMail other = new CrowMail();
        CHECK.refused("57: another object has none", other, STATE, () -> other.restore());
    }

    /** The nest that the snapshot knows has given its place to another one since. */
    private static void snapshotOfOtherNests() {
        CrowMail mail = new CrowMail();
        mail.addNest(2, 1);
        mail.save();
        String before = Picture.of(mail);
        mail.undo();
        mail.addNest(7, 3);
        mail.restore();
        CHECK.same("57: the nest of the snapshot", Picture.of(mail), before);
    }
}
