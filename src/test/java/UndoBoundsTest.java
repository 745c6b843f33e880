import java.util.NoSuchElementException;

/** The sentences of the document that name an edge of changes, undo, snapshot and exceptions (promises 55 to 57). */
public final class UndoBoundsTest {
    private static final Class<?> ARGUMENT = IllegalArgumentException.class;
    private static final Class<?> STATE = IllegalStateException.class;
    private static final Class<?> INDEX = IndexOutOfBoundsException.class;
    private static final Class<?> ELEMENT = NoSuchElementException.class;
    private static final Check CHECK = new Check("UndoBoundsTest");

    public static void main(String[] args) {
        CHECK.each(UndoBoundsTest::everyCallThatIsAChange, UndoBoundsTest::sameStateAfterwards,
            UndoBoundsTest::callsThatAreNoChange, UndoBoundsTest::latestEight, UndoBoundsTest::latestFirst,
            UndoBoundsTest::changesAfterUndo, UndoBoundsTest::manyChanges, UndoBoundsTest::nothingToUndo,
            UndoBoundsTest::changesLeft, UndoBoundsTest::undoOfWholeState, UndoBoundsTest::snapshotOfWholeState,
            UndoBoundsTest::nextId, UndoBoundsTest::bufferIsNotCovered, UndoBoundsTest::errorPositionIsNotCovered,
            UndoBoundsTest::failedCommandIsNotCovered, UndoBoundsTest::outputIsNotCovered,
            UndoBoundsTest::snapshotIsNotCovered, UndoBoundsTest::savedMessages, UndoBoundsTest::earlierSnapshot,
            UndoBoundsTest::noSnapshot, UndoBoundsTest::restoredMessages, UndoBoundsTest::snapshotIsKept,
            UndoBoundsTest::nothingToUndoAfterRestore, UndoBoundsTest::refusedCallsOfUsualState,
            UndoBoundsTest::refusedCallsOfFullState, UndoBoundsTest::firstOfSeveralExceptions,
            UndoBoundsTest::lastOf512Calls);
        CHECK.finish();
    }

    /** An object with messages in every status and nothing to undo. */
    private static CrowMail withoutHistory() {
        CrowMail mail = Mails.inEveryStatus();
        mail.save();
        mail.restore();
        return mail;
    }

    private static Check.Call[] changes(CrowMail mail) {
        return new Check.Call[] {
            () -> mail.addNest(1, 1), () -> mail.addCrow(), () -> mail.publish(0, 1), () -> mail.read(0),
            () -> mail.cancel(3), () -> mail.setWind(1), () -> mail.forget(0), () -> mail.advance(1),
            () -> Mails.run(mail, "crow;wait")};
    }

    private static void everyCallThatIsAChange() {
        CHECK.sentence("Changes: addNest, addCrow, publish, read, cancel, setWind, forget, advance or runScript");
        for (int i = 0; i < 9; i++) {
            CrowMail mail = withoutHistory();
            String before = Picture.of(mail);
            Check.Call change = changes(mail)[i];
            CHECK.no("it returns, " + i, Check.thrownBy(change).endsWith("Exception"));
            CHECK.no("it is seen, " + i, Picture.of(mail).equals(before));
            CHECK.same("it is one change, " + i, mail.undo(), 0);
            CHECK.same("it is undone, " + i, Picture.of(mail), before);
        }
    }

    private static void sameStateAfterwards() {
        CHECK.sentence("Changes: even if the state is the same afterwards");
        CrowMail mail = withoutHistory();
        String before = Picture.of(mail);
        mail.setWind(0);
        mail.forget(1);
        Mails.run(mail, "wind 0;forget 2");
        CHECK.same("the same", Picture.of(mail), before);
        CHECK.same("the script is one", mail.undo(), 2);
        CHECK.same("forget is one", mail.undo(), 1);
        CHECK.same("setWind is one", mail.undo(), 0);
        CHECK.same("still the same", Picture.of(mail), before);
    }

    private static void callsThatAreNoChange() {
        CHECK.sentence("Changes: no other call is a change");
        CrowMail mail = withoutHistory();
        Mails.type(mail, "crow");
        mail.renderMessage(0);
        mail.renderCrows();
        mail.save();
        Picture.of(mail);
        mail.minutesUntilDelivered(2);
        mail.isConsistent();
        CHECK.refused("nothing to undo", mail, ELEMENT, () -> mail.undo());
        mail.restore();
        CHECK.refused("restore is none", mail, ELEMENT, () -> mail.undo());
        mail.advance(1);
        mail.undo();
        CHECK.refused("undo is none", mail, ELEMENT, () -> mail.undo());
    }

    private static void latestEight() {
        CHECK.sentence("Changes: The latest 8 changes can be undone");
        for (int made = 7; made <= 10; made++) {
            CrowMail mail = new CrowMail();
            for (int i = 0; i < made; i++) {
                mail.advance(1);
            }
            int undoable = made < 8 ? made : 8;
            for (int i = undoable - 1; i >= 0; i--) {
                CHECK.same("of " + made + " changes", Check.thrownBy(mail::undo), "answered " + i);
            }
            CHECK.refused("no more of " + made, mail, ELEMENT, () -> mail.undo());
            CHECK.same("the others stay", mail.time(), made - undoable);
        }
    }

    private static void latestFirst() {
        CHECK.sentence("Changes: the latest one first");
        CrowMail mail = withoutHistory();
        String[] before = new String[9];
        for (int i = 0; i < 9; i++) {
            before[i] = Picture.of(mail);
            changes(mail)[i].answer();
        }
        for (int i = 8; i >= 1; i--) {
            mail.undo();
            CHECK.same("change " + i, Picture.of(mail), before[i]);
        }
        CHECK.refused("the ninth from the end", mail, ELEMENT, () -> mail.undo());
    }

    private static void changesAfterUndo() {
        CHECK.sentence("55: Undoes the latest change that has not been undone");
        CrowMail mail = new CrowMail();
        mail.advance(1);
        mail.advance(10);
        mail.undo();
        mail.advance(100);
        CHECK.same("the new one", mail.undo(), 1);
        CHECK.same("without it", mail.time(), 1);
        CHECK.same("not again the one that was undone", mail.undo(), 0);
        CHECK.same("without any", mail.time(), 0);
        CHECK.refused("none is left", mail, ELEMENT, () -> mail.undo());
    }

    private static void manyChanges() {
        CHECK.sentence("55: the latest change that has not been undone, after many changes and undos");
        CrowMail mail = new CrowMail();
        for (int round = 1; round <= 20; round++) {
            for (int i = 0; i < 7; i++) {
                mail.advance(round);
            }
            for (int i = 0; i < 6; i++) {
                int time = mail.time();
                mail.undo();
                CHECK.same("round " + round, mail.time(), time - round);
            }
        }
        CHECK.same("one of each round is left", mail.time(), 210);
    }

    private static void nothingToUndo() {
        CHECK.sentence("55: if there is nothing to undo");
        CrowMail mail = new CrowMail();
        CHECK.refused("a new object", mail, ELEMENT, () -> mail.undo());
        Check.thrownBy(() -> mail.advance(0));
        CHECK.refused("a refused call", mail, ELEMENT, () -> mail.undo());
        Check.thrownBy(mail::runScript);
        CHECK.refused("a script of the wrong form", mail, ELEMENT, () -> mail.undo());
        Mails.type(mail, "crow;read 0");
        Check.thrownBy(mail::runScript);
        CHECK.refused("a failed script", mail, ELEMENT, () -> mail.undo());
        mail.addCrow();
        mail.undo();
        CHECK.refused("all undone", mail, ELEMENT, () -> mail.undo());
    }

    private static void changesLeft() {
        CHECK.sentence("55: the number of changes that can still be undone");
        CrowMail mail = new CrowMail();
        mail.addCrow();
        CHECK.same("of one", mail.undo(), 0);
        mail.addCrow();
        mail.addCrow();
        CHECK.same("of two", mail.undo(), 1);
        mail.addCrow();
        mail.addCrow();
        CHECK.same("of three", mail.undo(), 2);
        for (int i = 0; i < 100; i++) {
            mail.setWind(1);
        }
        CHECK.same("of many", mail.undo(), 7);
    }

    private static void undoOfWholeState() {
        CHECK.sentence("Changes: Undo covers everything, also what is seen only later");
        CrowMail mail = Mails.inEveryStatus();
        CrowMail other = Mails.inEveryStatus();
        change(mail);
        for (int i = 0; i < 8; i++) {
            mail.undo();
        }
        later(mail, other);
    }

    private static void snapshotOfWholeState() {
        CHECK.sentence("Changes: the snapshot covers everything, also what is seen only later");
        CrowMail mail = Mails.inEveryStatus();
        CrowMail other = Mails.inEveryStatus();
        mail.save();
        change(mail);
        mail.advance(100);
        mail.restore();
        later(mail, other);
    }

    private static void change(CrowMail mail) {
        mail.setWind(8);
        mail.addNest(2, 2);
        mail.addCrow();
        mail.read(0);
        mail.cancel(3);
        mail.forget(0);
        mail.publish(3, 77);
        mail.advance(50);
    }

    private static void later(CrowMail mail, CrowMail other) {
        for (int minute = 0; minute < 60; minute++) {
            CHECK.same("minute " + minute, Picture.of(mail), Picture.of(other));
            CHECK.yes("47: consistent", mail.isConsistent());
            mail.advance(1);
            other.advance(1);
        }
    }

    private static void nextId() {
        CHECK.sentence("Changes: they cover the id of the next message");
        CrowMail mail = Mails.with(0, 1, 0);
        mail.publish(0, 1);
        mail.save();
        CHECK.same("the next", mail.publish(0, 2), 1);
        mail.undo();
        CHECK.same("again after undo", mail.publish(0, 3), 1);
        mail.cancel(1);
        CHECK.same("one more", mail.publish(0, 4), 2);
        mail.restore();
        CHECK.same("again after restore", mail.publish(0, 5), 1);
    }

    private static void bufferIsNotCovered() {
        CHECK.sentence("Changes: everything except the script buffer");
        CrowMail mail = new CrowMail();
        mail.addCrow();
        mail.save();
        Mails.type(mail, "wa");
        mail.undo();
        CHECK.same("undo leaves it", mail.type('i'), 3);
        mail.restore();
        CHECK.same("restore leaves it", mail.type('t'), 4);
        CHECK.same("it runs", mail.runScript(), 1);
        mail.undo();
        CHECK.same("undo of a script does not bring it back", mail.type('w'), 1);
    }

    private static void errorPositionIsNotCovered() {
        CHECK.sentence("Changes: everything except the error position");
        CrowMail mail = new CrowMail();
        mail.save();
        mail.addCrow();
        Mails.type(mail, "crown");
        Check.thrownBy(mail::runScript);
        mail.undo();
        CHECK.same("undo leaves it", mail.errorPosition(), 4);
        mail.restore();
        CHECK.same("restore leaves it", mail.errorPosition(), 4);
    }

    private static void failedCommandIsNotCovered() {
        CHECK.sentence("Changes: everything except the index of the failed command");
        CrowMail mail = new CrowMail();
        mail.save();
        mail.addCrow();
        Mails.type(mail, "crow;read 0");
        Check.thrownBy(mail::runScript);
        mail.undo();
        CHECK.same("undo leaves it", mail.failedCommand(), 1);
        mail.restore();
        CHECK.same("restore leaves it", mail.failedCommand(), 1);
    }

    private static void outputIsNotCovered() {
        CHECK.sentence("Changes: everything except the output text");
        CrowMail mail = Mails.with(0, 1, 0);
        mail.save();
        mail.publish(0, 1);
        mail.renderMessage(0);
        mail.undo();
        CHECK.same("undo leaves it", Picture.ofOutput(mail), "0>0k1a0w");
        mail.restore();
        CHECK.same("restore leaves it", Picture.ofOutput(mail), "0>0k1a0w");
    }

    private static void snapshotIsNotCovered() {
        CHECK.sentence("Changes: everything except the snapshot itself");
        CrowMail mail = new CrowMail();
        mail.advance(1);
        mail.advance(1);
        mail.save();
        mail.undo();
        mail.undo();
        mail.restore();
        CHECK.same("undo leaves it", mail.time(), 2);
        mail.advance(1);
        mail.restore();
        CHECK.same("restore leaves it", mail.time(), 2);
    }

    private static void savedMessages() {
        CHECK.sentence("56: the number of messages");
        CHECK.same("none", new CrowMail().save(), 0);
        CHECK.same("in every status", Mails.inEveryStatus().save(), 4);
        CHECK.same("sixteen", Mails.full().save(), 16);
    }

    private static void earlierSnapshot() {
        CHECK.sentence("56: Takes a snapshot, which replaces an earlier one");
        CrowMail mail = Mails.full();
        mail.save();
        mail.advance(100);
        mail.cancel(mail.publish(0, 1));
        String second = Picture.of(mail);
        mail.save();
        mail.advance(100);
        mail.setWind(1);
        mail.restore();
        CHECK.same("the second one", Picture.of(mail), second);
    }

    private static void noSnapshot() {
        CHECK.sentence("57: if there is no snapshot");
        CrowMail mail = Mails.inEveryStatus();
        CHECK.refused("none was taken", mail, STATE, () -> mail.restore());
        CHECK.same("the refused call leaves what can be undone", mail.undo(), 7);
        mail.save();
        CHECK.same("of a new object's there is one", mail.restore(), 4);
    }

    private static void restoredMessages() {
        CHECK.sentence("57: the number of messages");
        CrowMail mail = Mails.with(0, 1, 0);
        mail.save();
        for (int count = 1; count <= 16; count++) {
            mail.publish(0, count);
        }
        CHECK.same("none", mail.restore(), 0);
        for (int count = 1; count <= 16; count++) {
            mail.publish(0, count);
        }
        mail.save();
        mail.cancel(3);
        CHECK.same("sixteen", mail.restore(), 16);
    }

    private static void snapshotIsKept() {
        CHECK.sentence("57: Restores the snapshot, which is kept");
        CrowMail mail = Mails.inEveryStatus();
        String saved = Picture.of(mail);
        mail.save();
        for (int round = 0; round < 3; round++) {
            change(mail);
            mail.restore();
            CHECK.same("round " + round, Picture.of(mail), saved);
        }
    }

    private static void nothingToUndoAfterRestore() {
        CHECK.sentence("57: Afterwards there is nothing to undo");
        CrowMail mail = Mails.inEveryStatus();
        mail.save();
        mail.restore();
        CHECK.refused("of changes before save", mail, ELEMENT, () -> mail.undo());
        change(mail);
        mail.restore();
        CHECK.refused("of changes after save", mail, ELEMENT, () -> mail.undo());
        mail.advance(1);
        CHECK.same("but of changes after restore", mail.undo(), 0);
    }

    /** Messages in every status; each part that a refused call might touch holds something. */
    private static CrowMail usual() {
        CrowMail mail = Mails.inEveryStatus();
        Mails.type(mail, "crow;read 9");
        Check.thrownBy(mail::runScript);
        Mails.type(mail, "crown");
        Check.thrownBy(mail::runScript);
        mail.renderMessage(1);
        mail.save();
        mail.setWind(2);
        Mails.type(mail, "wai");
        return mail;
    }

    private static Check.Call[] refusedWhenUsual(CrowMail mail) {
        return new Check.Call[] {
            () -> mail.addNest(0, 0), () -> mail.addNest(10, 0), () -> mail.addNest(1, -1), () -> mail.addNest(1, 5),
            () -> mail.publish(3, 0), () -> mail.publish(-1, 0), () -> mail.publish(0, -1), () -> mail.publish(0, 100),
            () -> mail.read(-1), () -> mail.read(3), () -> mail.read(1), () -> mail.cancel(-1), () -> mail.cancel(4),
            () -> mail.cancel(0), () -> mail.cancel(2), () -> mail.setWind(-1), () -> mail.setWind(10),
            () -> mail.forget(-1), () -> mail.forget(3), () -> mail.advance(0), () -> mail.advance(101),
            () -> mail.distance(3), () -> mail.loss(3), () -> mail.inboxSize(3), () -> mail.inboxMessage(3, 0),
            () -> mail.inboxMessage(0, 1), () -> mail.remembers(3, 0), () -> mail.rememberedCount(3),
            () -> mail.nestByDeliveries(3), () -> mail.isFlying(1), () -> mail.carriedMessage(1),
            () -> mail.flightMinutes(1), () -> mail.messageAt(4), () -> mail.nestOf(4), () -> mail.keyOf(4),
            () -> mail.attempts(4), () -> mail.status(4), () -> mail.napMinutes(4), () -> mail.napMinutes(0),
            () -> mail.waitingMessage(1), () -> mail.wouldBeLost(4), () -> mail.wouldBeLost(0),
            () -> mail.napLength(41), () -> mail.napLengthByDoubling(41), () -> mail.minutesUntilDelivered(4),
            () -> mail.minutesUntilDelivered(0), () -> mail.renderMessage(4), () -> mail.outputAt(9),
            () -> mail.type((char) 31), () -> mail.type((char) 127)};
    }

    private static void refusedCallsOfUsualState() {
        CHECK.sentence("Exceptions: A method that throws an exception changes nothing");
        String due = story(usual());
        for (int i = 0; i < refusedWhenUsual(usual()).length; i++) {
            CrowMail mail = usual();
            String answer = Check.thrownBy(refusedWhenUsual(mail)[i]);
            CHECK.yes("call " + i + " is refused", answer.endsWith("Exception"));
            CHECK.same("all that is seen after call " + i, story(mail), due);
        }
    }

    /** As many nests, crows, messages and characters as there may be, and no snapshot. */
    private static CrowMail full() {
        CrowMail mail = Mails.full();
        Mails.type(mail, "wait;wait;wait;wait;wait;wait;wait;wait;wait;wait 100;read 5");
        return mail;
    }

    private static Check.Call[] refusedWhenFull(CrowMail mail) {
        return new Check.Call[] {
            () -> mail.addNest(1, 0), () -> mail.addCrow(), () -> mail.publish(0, 0), () -> mail.type('x'),
            () -> mail.restore(), () -> mail.carriedMessage(0), () -> mail.deliveryRate(),
            () -> mail.deliveryRateBits(), () -> mail.errorPosition(), () -> mail.failedCommand(),
            () -> mail.outputAt(0)};
    }

    private static void refusedCallsOfFullState() {
        CHECK.sentence("Exceptions: changes nothing, also when everything is full");
        String due = story(full());
        for (int i = 0; i < refusedWhenFull(full()).length; i++) {
            CrowMail mail = full();
            String answer = Check.thrownBy(refusedWhenFull(mail)[i]);
            CHECK.yes("call " + i + " is refused", answer.endsWith("Exception"));
            CHECK.same("all that is seen after call " + i, story(mail), due);
        }
    }

    /** All that can be seen of an object, now and by going on: its buffer, its changes and its snapshot too. */
    private static String story(CrowMail mail) {
        StringBuilder text = new StringBuilder();
        text.append(Picture.of(mail)).append(Picture.ofOutput(mail)).append(Picture.ofScripts(mail));
        text.append(Check.thrownBy(() -> mail.type('t'))).append(Check.thrownBy(mail::runScript));
        text.append(Picture.of(mail)).append(Picture.ofScripts(mail));
        for (int i = 0; i < 10; i++) {
            text.append(Check.thrownBy(mail::undo)).append(Picture.of(mail));
        }
        text.append(Check.thrownBy(() -> mail.publish(0, 42))).append(Check.thrownBy(() -> mail.advance(100)));
        text.append(Picture.of(mail)).append(Check.thrownBy(mail::restore)).append(Picture.of(mail));
        mail.advance(100);
        return text.append(Picture.of(mail)).toString();
    }

    private static void firstOfSeveralExceptions() {
        CHECK.sentence("Exceptions: If several exceptions apply, the one that is listed first is thrown");
        CrowMail mail = full();
        CHECK.refused("2: distance and a seventh nest", mail, ARGUMENT, () -> mail.addNest(0, 0));
        CHECK.refused("2: loss and a seventh nest", mail, ARGUMENT, () -> mail.addNest(1, 5));
        CHECK.refused("4: all three", mail, INDEX, () -> mail.publish(6, 100));
        CHECK.refused("4: nest and a seventeenth message", mail, INDEX, () -> mail.publish(-1, 0));
        CHECK.refused("4: key and a seventeenth message", mail, ARGUMENT, () -> mail.publish(0, 100));
        CHECK.refused("14: nest and position", mail, INDEX, () -> mail.inboxMessage(6, 0));
        CHECK.refused("20: crow", mail, INDEX, () -> mail.carriedMessage(4));
        CHECK.refused("51: code and a full buffer", mail, ARGUMENT, () -> mail.type((char) 127));
        CrowMail script = new CrowMail();
        Mails.type(script, "read 0;#");
        CHECK.same("52: form and a command", Check.thrownBy(script::runScript), "IllegalArgumentException");
    }

    private static void lastOf512Calls() {
        CHECK.sentence("An object is used for at most 512 calls");
        CrowMail changed = new CrowMail();
        changed.addNest(1, 0);
        for (int call = 2; call <= 511; call += 2) {
            CHECK.same("call " + call, changed.cancel(changed.publish(0, 1)), 0);
        }
        CHECK.same("the 512th: publish", changed.publish(0, 1), 255);
        CrowMail typed = new CrowMail();
        for (int call = 1; call <= 510; call += 51) {
            Mails.type(typed, "wait 100;wait 100;wait 100;wait 100;wait 100;wait;");
            CHECK.same("51: " + call, typed.type('w'), 51);
            CHECK.same("52: " + call, Check.thrownBy(typed::runScript), "IllegalArgumentException");
        }
        CrowMail undone = new CrowMail();
        for (int call = 1; call < 511; call += 2) {
            undone.advance(100);
            CHECK.same("55: " + call, undone.undo(), 0);
        }
        undone.advance(100);
        CHECK.same("the 512th: undo", undone.undo(), 0);
    }
}
