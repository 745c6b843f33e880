import java.util.NoSuchElementException;

/** The sentences of the document that name an edge of output and scripts (promises 48 to 54). */
public final class ScriptBoundsTest {
    private static final Class<?> ARGUMENT = IllegalArgumentException.class;
    private static final Class<?> STATE = IllegalStateException.class;
    private static final Class<?> INDEX = IndexOutOfBoundsException.class;
    private static final Class<?> ELEMENT = NoSuchElementException.class;
    private static final Check CHECK = new Check("ScriptBoundsTest");

    public static void main(String[] args) {
        CHECK.each(ScriptBoundsTest::renderedMessages, ScriptBoundsTest::renderedCrows, ScriptBoundsTest::noCrows,
            ScriptBoundsTest::lastDigit, ScriptBoundsTest::outputAtFirst, ScriptBoundsTest::missingCharacters,
            ScriptBoundsTest::replacedOutput, ScriptBoundsTest::wrongCharacters, ScriptBoundsTest::sixtyCharacters,
            ScriptBoundsTest::lengthOfBuffer, ScriptBoundsTest::emptyScript, ScriptBoundsTest::semicolons,
            ScriptBoundsTest::digits, ScriptBoundsTest::numbersOfDigits, ScriptBoundsTest::leadingZeros,
            ScriptBoundsTest::optionalNumber, ScriptBoundsTest::spaces, ScriptBoundsTest::wrongWords,
            ScriptBoundsTest::everyPrefix, ScriptBoundsTest::endOfFullBuffer, ScriptBoundsTest::argumentsInOrder,
            ScriptBoundsTest::waitingOneMinute, ScriptBoundsTest::commandsInOrder, ScriptBoundsTest::allOrNone,
            ScriptBoundsTest::numberOfCommands, ScriptBoundsTest::emptyAfterwards,
            ScriptBoundsTest::wrongFormBeforeFailure, ScriptBoundsTest::failuresOfCommands,
            ScriptBoundsTest::limitsOfArguments, ScriptBoundsTest::noErrorPosition,
            ScriptBoundsTest::latestErrorPosition, ScriptBoundsTest::noFailedCommand,
            ScriptBoundsTest::latestFailedCommand);
        CHECK.finish();
    }

    private static void renderedMessages() {
        CHECK.sentence("48: its id, \">\", its nest, \"k\" and its key, \"a\" and its attempts, and its status");
        CrowMail mail = Mails.inEveryStatus();
        rendered(mail, 0, "0>0k10a1d");
        rendered(mail, 1, "1>1k11a1n");
        rendered(mail, 2, "2>2k12a0f");
        rendered(mail, 3, "3>2k13a0w");
        CrowMail six = Mails.with(0, 1, 0, 1, 0, 1, 0, 1, 0, 1, 0, 1, 0);
        rendered(six, six.publish(5, 0), "0>5k0a0w");
        rendered(six, six.publish(5, 9), "1>5k9a0w");
        rendered(six, six.publish(5, 99), "2>5k99a0w");
        for (int id = 3; id <= 100; id++) {
            six.publish(1, 5);
            if (id == 9 || id == 10 || id == 99 || id == 100) {
                rendered(six, id, id + ">1k5a0w");
            }
            six.cancel(id);
        }
        CrowMail most = Mails.with(1, 1, 4);
        most.setWind(4);
        most.publish(0, 42);
        most.advance(100);
        rendered(most, 0, "0>0k42a5d");
    }

    private static void rendered(CrowMail mail, int message, String due) {
        CHECK.same("length", mail.renderMessage(message), due.length());
        CHECK.same("text", Picture.ofOutput(mail), due);
    }

    private static void renderedCrows() {
        CHECK.sentence("49: for each crow in order \".\" if it is free and otherwise the last digit of the id");
        crows(Mails.with(1), ".");
        crows(Mails.with(4), "....");
        crows(Mails.inEveryStatus(), "2");
        CrowMail mail = Mails.full();
        mail.advance(1);
        crows(mail, "0123");
        mail.advance(1);
        crows(mail, "4567");
    }

    private static void noCrows() {
        CHECK.sentence("49: The text is empty without crows");
        crows(new CrowMail(), "");
        CrowMail mail = Mails.with(0, 1, 0);
        mail.publish(0, 1);
        mail.renderMessage(0);
        crows(mail, "");
        CHECK.refused("no character is left", mail, INDEX, () -> mail.outputAt(0));
    }

    private static void lastDigit() {
        CHECK.sentence("49: the last digit of the id of its message");
        CrowMail mail = Mails.with(1, 1, 0);
        for (int id = 0; id < 112; id++) {
            mail.publish(0, 1);
            if (id != 0 && id != 9 && id != 10 && id != 99 && id != 100 && id != 111) {
                mail.cancel(id);
                continue;
            }
            mail.advance(1);
            crows(mail, "" + id % 10);
            mail.advance(1);
            crows(mail, ".");
        }
    }

    private static void crows(CrowMail mail, String due) {
        CHECK.same("length", mail.renderCrows(), due.length());
        CHECK.same("text", Picture.ofOutput(mail), due);
    }

    private static void outputAtFirst() {
        CHECK.sentence("50: the output text, which is empty initially");
        CrowMail mail = Mails.inEveryStatus();
        for (int index : Mails.outside(0, -1)) {
            CHECK.refused("index " + index, mail, INDEX, () -> mail.outputAt(index));
        }
    }

    private static void missingCharacters() {
        CHECK.sentence("50: if there is no such index");
        CrowMail mail = Mails.inEveryStatus();
        String due = "1>1k11a1n";
        mail.renderMessage(1);
        for (int index = 0; index < due.length(); index++) {
            CHECK.same("index " + index, mail.outputAt(index), due.charAt(index));
        }
        for (int index : Mails.outside(0, due.length() - 1)) {
            CHECK.refused("index " + index, mail, INDEX, () -> mail.outputAt(index));
        }
    }

    private static void replacedOutput() {
        CHECK.sentence("48 and 49: Replaces the output text");
        CrowMail mail = Mails.inEveryStatus();
        mail.renderMessage(0);
        mail.renderCrows();
        CHECK.same("a shorter one", Picture.ofOutput(mail), "2");
        mail.renderMessage(3);
        CHECK.same("a longer one", Picture.ofOutput(mail), "3>2k13a0w");
        CHECK.refused("not by a message that there is not", mail, ELEMENT, () -> mail.renderMessage(4));
    }

    private static void wrongCharacters() {
        CHECK.sentence("51: if the character code is not between 32 and 126");
        CrowMail mail = new CrowMail();
        CHECK.same("32", mail.type((char) 32), 1);
        CHECK.same("126", mail.type((char) 126), 2);
        for (int code : new int[] {0, 9, 10, 31, 127, 128, 160, 255, 256, 256 + 'w', 32767, 32768, 65535}) {
            CHECK.refused("code " + code, mail, ARGUMENT, () -> mail.type((char) code));
        }
        CHECK.same("they were not appended", mail.type('w'), 3);
    }

    private static void sixtyCharacters() {
        CHECK.sentence("51: if the script buffer has 60 characters");
        CrowMail mail = new CrowMail();
        String script = "nest 1 0;crow;send 0 1;wait 2;read 0;forget 0;wind 9;wait 10";
        CHECK.same("a script of 60", script.length(), 60);
        Mails.type(mail, script.substring(0, 59));
        CHECK.same("it has 59", mail.type('0'), 60);
        CHECK.refused("it has 60", mail, STATE, () -> mail.type('0'));
        CHECK.refused("a wrong code is told first", mail, ARGUMENT, () -> mail.type((char) 31));
        CHECK.refused("also one above", mail, ARGUMENT, () -> mail.type((char) 127));
        CHECK.same("all 60 are run", mail.runScript(), 8);
        CHECK.same("with the last one", mail.time(), 12);
    }

    private static void lengthOfBuffer() {
        CHECK.sentence("51: the length of the script buffer");
        CrowMail mail = new CrowMail();
        for (int round = 0; round < 2; round++) {
            for (int length = 1; length <= 60; length++) {
                CHECK.same("one more", mail.type('x'), length);
            }
            Check.thrownBy(mail::runScript);
        }
    }

    private static void emptyScript() {
        CHECK.sentence("Scripts: script = command { \";\" command }, which is not empty");
        CrowMail mail = new CrowMail();
        wrong(mail, "", 0);
        Mails.run(mail, "wait");
        wrong(mail, "", 0);
        wrong(mail, ";", 0);
        wrong(mail, " ", 0);
    }

    private static void semicolons() {
        CHECK.sentence("Scripts: { \";\" command }");
        CrowMail mail = new CrowMail();
        wrong(mail, ";wait", 0);
        wrong(mail, "wait;", 5);
        wrong(mail, "wait;;wait", 5);
        wrong(mail, "wait wait", 5);
        wrong(mail, "waitwait", 4);
        wrong(mail, "wait,wait", 4);
        CHECK.same("one", Mails.run(mail, "wait"), 1);
        CHECK.same("two", Mails.run(mail, "wait;wait"), 2);
        CHECK.same("twelve", Mails.run(mail, "wait;wait;wait;wait;wait;wait;wait;wait;wait;wait;wait;crow"), 12);
    }

    private static void digits() {
        CHECK.sentence("Scripts: digit");
        CrowMail mail = Mails.with(1, 1, 0);
        for (String command : new String[] {"nest ", "nest 1 ", "send ", "read ", "wind ", "forget "}) {
            wrong(mail, command, command.length());
            for (char other : new char[] {'/', ':', ' ', ';', '-', '+', 'a'}) {
                wrong(mail, command + other, command.length());
            }
            wrong(mail, command + "00", command.length() + 1);
            wrong(mail, command + "99", command.length() + 1);
        }
        CHECK.same("0", Mails.run(mail, "wind 0"), 1);
        CHECK.same("9", Mails.run(mail, "wind 9"), 1);
        CHECK.same("force", mail.wind(), 9);
    }

    private static void numbersOfDigits() {
        CHECK.sentence("Scripts: number = digit [ digit [ digit ] ]");
        CrowMail mail = Mails.with(0, 1, 0);
        for (String command : new String[] {"send 0 ", "drop ", "wait "}) {
            int length = command.length();
            wrong(mail, command, length);
            wrong(mail, command + ";", length);
            wrong(mail, command + "-1", length);
            wrong(mail, command + "1234", length + 3);
            wrong(mail, command + "0000", length + 3);
            wrong(mail, command + "12 3", length + 2);
            wrong(mail, command + "1x", length + 1);
            wrong(mail, command + "123x", length + 3);
        }
        Mails.run(mail, "wait 1;wait 12;wait 100");
        CHECK.same("one, two and three digits", mail.time(), 113);
    }

    private static void leadingZeros() {
        CHECK.sentence("Scripts: digit [ digit [ digit ] ], which may begin with 0");
        CrowMail mail = Mails.with(0, 1, 0);
        Mails.run(mail, "send 0 00;send 0 000;send 0 09;send 0 099;wait 007;drop 001");
        CHECK.same("the keys", mail.keyOf(0) + " " + mail.keyOf(2) + " " + mail.keyOf(3), "0 9 99");
        CHECK.same("the time", mail.time(), 7);
        CHECK.same("the messages", mail.messageCount(), 3);
    }

    private static void optionalNumber() {
        CHECK.sentence("Scripts: \"wait\" [ \" \" number ]");
        CrowMail mail = new CrowMail();
        CHECK.same("without", Mails.run(mail, "wait;wait"), 2);
        CHECK.same("with", Mails.run(mail, "wait 3;wait"), 2);
        CHECK.same("time", mail.time(), 6);
        wrong(mail, "wait ", 5);
        wrong(mail, "wait ;wait", 5);
        wrong(mail, "wait;wait ", 10);
        wrong(mail, "wait3", 4);
        wrong(mail, "wait  3", 5);
        wrong(mail, "waits", 4);
    }

    private static void spaces() {
        CHECK.sentence("Scripts: one space between the words and none elsewhere");
        CrowMail mail = Mails.with(0, 1, 0);
        wrong(mail, " crow", 0);
        wrong(mail, "crow ", 4);
        wrong(mail, "crow ;crow", 4);
        wrong(mail, "crow; crow", 5);
        wrong(mail, "nest1 0", 4);
        wrong(mail, "nest 10", 6);
        wrong(mail, "nest  1 0", 5);
        wrong(mail, "nest 1  0", 7);
        wrong(mail, "nest 1 0 ", 8);
        wrong(mail, "send 0 1 ", 8);
        wrong(mail, "drop 1 ", 6);
        wrong(mail, "read 0 ", 6);
    }

    private static void wrongWords() {
        CHECK.sentence("Scripts: the index of the first character that cannot continue any script of this form");
        CrowMail mail = new CrowMail();
        for (char first = ' '; first <= '~'; first++) {
            if ("ncsrdwf".indexOf(first) < 0) {
                wrong(mail, first + "est 1 0", 0);
            } else {
                wrong(mail, first + "#", 1);
            }
        }
        wrong(mail, "CROW", 0);
        wrong(mail, "nets 1 0", 2);
        wrong(mail, "sent 0 1", 3);
        wrong(mail, "rear 0", 3);
        wrong(mail, "drow", 3);
        wrong(mail, "wa", 2);
        wrong(mail, "wi", 2);
        wrong(mail, "wo", 1);
        wrong(mail, "wand 1", 2);
        wrong(mail, "wing 1", 3);
        wrong(mail, "forge 1", 5);
        wrong(mail, "cancel 1", 1);
        wrong(mail, "crow;wait 5;send 0 1;foo", 23);
    }

    private static void everyPrefix() {
        CHECK.sentence("Scripts: the length of the script if every character can and the end comes too early");
        CrowMail mail = new CrowMail();
        String script = "nest 1 0;send 0 12;read 0;drop 123;wind 4;forget 5;wait 6;cr";
        for (int length = 0; length <= script.length(); length++) {
            String prefix = script.substring(0, length);
            if (!prefix.matches("(.*;)?(nest . .|send . \\d+|read .|drop \\d+|wind .|forget .|wait( \\d+)?)")) {
                wrong(mail, prefix, length);
            }
        }
    }

    private static void endOfFullBuffer() {
        CHECK.sentence("Scripts: a buffer of at most 60 characters, whose end comes too early");
        CrowMail mail = new CrowMail();
        String eleven = "wait;wait;wait;wait;wait;wait;wait;wait;wait;wait;wait;";
        wrong(mail, eleven + "wait;", 60);
        wrong(mail, eleven + "wait ", 60);
        wrong(mail, eleven + "read ", 60);
        wrong(mail, eleven + "forge", 60);
        wrong(mail, eleven + "crows", 59);
        wrong(mail, eleven + "wait#", 59);
        wrong(mail, "#" + eleven + "wait", 0);
    }

    private static void argumentsInOrder() {
        CHECK.sentence("Scripts: with the arguments in the same order");
        CrowMail mail = new CrowMail();
        Mails.run(mail, "nest 3 1;nest 9 0;nest 1 4;crow");
        CHECK.same("nest", mail.distance(0) * 10 + mail.loss(0), 31);
        CHECK.same("nest, the greatest distance", mail.distance(1) * 10 + mail.loss(1), 90);
        CHECK.same("nest, the greatest loss", mail.distance(2) * 10 + mail.loss(2), 14);
        Mails.run(mail, "send 2 1;send 1 2");
        CHECK.same("send", mail.nestOf(0) * 10 + mail.keyOf(0), 21);
        CHECK.same("send again", mail.nestOf(1) * 10 + mail.keyOf(1), 12);
        CHECK.same("nest, too little loss for a distance", scriptFails(mail, "nest 0 4"), 0);
        CHECK.same("nest, too much distance for a loss", scriptFails(mail, "nest 4 9"), 0);
    }

    private static void waitingOneMinute() {
        CHECK.sentence("Scripts: wait without a number advances by 1 minute");
        CrowMail mail = new CrowMail();
        Mails.run(mail, "wait");
        CHECK.same("one", mail.time(), 1);
        Mails.run(mail, "wait 5;wait");
        CHECK.same("one, after a wait with a number", mail.time(), 7);
        Mails.run(mail, "wait;wait 5");
        CHECK.same("one, before a wait with a number", mail.time(), 13);
    }

    private static void commandsInOrder() {
        CHECK.sentence("Scripts: The commands are executed in order");
        CrowMail mail = new CrowMail();
        CHECK.same("a message before its nest", scriptFails(mail, "send 0 1;nest 1 0"), 0);
        CHECK.same("a message after its nest", Mails.run(mail, "nest 1 0;send 0 1"), 2);
        CHECK.same("a reading too early", scriptFails(mail, "crow;wait;read 0;wait"), 2);
        CHECK.same("a reading in time", Mails.run(mail, "crow;wait;wait;read 0"), 4);
        Mails.run(mail, "wind 1;wind 2");
        CHECK.same("the last force stays", mail.wind(), 2);
    }

    private static void allOrNone() {
        CHECK.sentence("Scripts: either all of them take effect or none");
        CrowMail mail = Mails.inEveryStatus();
        String before = Picture.of(mail);
        String eight = "nest 2 2;crow;send 0 5;read 0;drop 3;wind 8;forget 0;wait 9;";
        CHECK.same("the last fails", scriptFails(mail, "nest 2 2;crow;send 0 5;read 0;drop 3;wind 8;read 0"), 6);
        CHECK.same("nothing is changed", Picture.of(mail), before);
        CHECK.same("the last fails again", scriptFails(mail, "forget 0;wind 7;wait 99;send 0 9;drop 4;drop 4"), 5);
        CHECK.same("still nothing is changed", Picture.of(mail), before);
        CHECK.same("and no id was taken", mail.publish(0, 1), 4);
        mail.undo();
        mail.setWind(5);
        CHECK.same("one that fails is no change", scriptFails(mail, "wind 6;read 1"), 1);
        mail.undo();
        CHECK.same("undo takes back what was before it", Picture.of(mail), before);
        CHECK.same("all take effect", Mails.run(mail, eight.substring(0, eight.length() - 1)), 8);
        CHECK.no("everything is changed", Picture.of(mail).equals(before));
        mail.undo();
        CHECK.same("as one change", Picture.of(mail), before);
    }

    private static void numberOfCommands() {
        CHECK.sentence("52: the number of commands");
        CrowMail mail = new CrowMail();
        for (int count = 1; count <= 12; count++) {
            CHECK.same("so many", Mails.run(mail, "wait" + ";wait".repeat(count - 1)), count);
        }
        CHECK.same("one after many", Mails.run(mail, "wait 1"), 1);
        CHECK.same("all of them took effect", mail.time(), 79);
    }

    private static void emptyAfterwards() {
        CHECK.sentence("52: The buffer is empty afterwards, also if an exception is thrown");
        CrowMail mail = Mails.with(0, 1, 0);
        Mails.run(mail, "wait 10;wait 10");
        CHECK.same("after a good script", mail.type('c'), 1);
        CHECK.same("52: the form", Check.thrownBy(mail::runScript), "IllegalArgumentException");
        CHECK.same("after a wrong one", mail.type('r'), 1);
        Mails.type(mail, "ead 0");
        CHECK.same("52: the command", Check.thrownBy(mail::runScript), "IllegalStateException");
        CHECK.same("after a failed one", mail.type('w'), 1);
        Mails.type(mail, "ait");
        CHECK.same("nothing of the old ones is run", mail.runScript(), 1);
        CHECK.same("time", mail.time(), 21);
        CHECK.same("a second run", Check.thrownBy(mail::runScript), "IllegalArgumentException");
        CHECK.same("of an empty buffer", mail.errorPosition(), 0);
    }

    private static void wrongFormBeforeFailure() {
        CHECK.sentence("52: if the script does not have the required form is told before a command's exception");
        CrowMail mail = new CrowMail();
        wrong(mail, "read 0;wai", 10);
        wrong(mail, "wait 0;x", 7);
        CHECK.refused("no command has failed", mail, ELEMENT, () -> mail.failedCommand());
    }

    private static void failuresOfCommands() {
        CHECK.sentence("52: if the method for a command throws an exception");
        String[] commands = {"nest 0 0", "nest 1 5", "nest 1 9", "send 3 1", "send 9 1", "send 0 100", "send 0 999",
            "send 3 999", "read 1", "read 3", "read 9", "drop 0", "drop 2", "drop 4", "drop 999", "forget 3",
            "forget 9", "wait 0", "wait 000", "wait 101", "wait 999", "crow;crow;crow;crow",
            "nest 1 0;nest 1 0;nest 1 0;nest 1 0"};
        for (String command : commands) {
            CrowMail mail = Mails.inEveryStatus();
            String before = Picture.of(mail);
            CHECK.same(command, scriptFails(mail, command), (int) command.chars().filter(c -> c == ';').count());
            CHECK.same(command + " changes nothing", Picture.of(mail), before);
        }
        CHECK.same("a seventeenth message", scriptFails(Mails.full(), "wait;wait;send 0 50"), 2);
        CHECK.same("a seventh nest", scriptFails(Mails.full(), "nest 1 0"), 0);
        CHECK.same("a fifth crow", scriptFails(Mails.full(), "crow"), 0);
    }

    private static void limitsOfArguments() {
        CHECK.sentence("Scripts: The commands stand for addNest, addCrow, publish, read, cancel, setWind, forget and"
            + " advance");
        CrowMail mail = new CrowMail();
        CHECK.same("nests", Mails.run(mail, "nest 1 0;nest 9 4;nest 1 0;nest 1 0;nest 1 0;nest 1 0"), 6);
        CHECK.same("crows", Mails.run(mail, "crow;crow;crow;crow"), 4);
        CHECK.same("keys", Mails.run(mail, "send 5 0;send 0 99;send 0 5;send 2 5"), 4);
        CHECK.same("a waiting message", Mails.run(mail, "drop 2"), 1);
        CHECK.same("minutes", Mails.run(mail, "wait 100;wait 1"), 2);
        CHECK.same("a delivered message", Mails.run(mail, "read 5;read 2"), 2);
        CHECK.same("keys that are remembered", Mails.run(mail, "forget 5;forget 0"), 2);
        CHECK.same("forces", Mails.run(mail, "wind 9;wind 0"), 2);
        CHECK.same("state", Picture.of(mail).replaceAll("(?s)\nnest.*", ""),
            "time 101 wind 0 totals 4 3 2 0 0 3 1");
    }

    private static void noErrorPosition() {
        CHECK.sentence("53: if there was no such script");
        CrowMail mail = new CrowMail();
        CHECK.refused("no script", mail, ELEMENT, () -> mail.errorPosition());
        Mails.type(mail, "#");
        CHECK.refused("not run yet", mail, ELEMENT, () -> mail.errorPosition());
        Check.thrownBy(mail::runScript);
        CHECK.same("run", mail.errorPosition(), 0);
        CrowMail good = new CrowMail();
        Mails.run(good, "crow");
        scriptFails(good, "read 0");
        CHECK.refused("a good one and a failed one", good, ELEMENT, () -> good.errorPosition());
    }

    private static void latestErrorPosition() {
        CHECK.sentence("53: of the latest script that did not have the required form");
        CrowMail mail = new CrowMail();
        wrong(mail, "wait;x", 5);
        Mails.run(mail, "wait");
        scriptFails(mail, "read 0");
        CHECK.same("later ones that have it leave it", mail.errorPosition(), 5);
        wrong(mail, "x", 0);
        CHECK.same("a later one that has it not", mail.errorPosition(), 0);
    }

    private static void noFailedCommand() {
        CHECK.sentence("54: if there was no such script");
        CrowMail mail = new CrowMail();
        CHECK.refused("no script", mail, ELEMENT, () -> mail.failedCommand());
        Mails.run(mail, "crow");
        wrong(mail, "read 0;", 7);
        CHECK.refused("a good one and a wrong one", mail, ELEMENT, () -> mail.failedCommand());
        Check.thrownBy(() -> mail.read(0));
        CHECK.refused("a refused call", mail, ELEMENT, () -> mail.failedCommand());
        scriptFails(mail, "read 0");
        CHECK.same("a failed one", mail.failedCommand(), 0);
    }

    private static void latestFailedCommand() {
        CHECK.sentence("54: the index of the command that failed, counted from 0, in the latest script");
        CrowMail mail = Mails.with(4, 1, 0);
        CHECK.same("the first", scriptFails(mail, "crow;crow"), 0);
        CHECK.same("the second", scriptFails(mail, "wait;crow"), 1);
        CHECK.same("the twelfth", scriptFails(mail, "wait;".repeat(11) + "crow"), 11);
        Mails.run(mail, "wait");
        wrong(mail, "x", 0);
        CHECK.same("later ones without a failure leave it", mail.failedCommand(), 11);
        CHECK.same("a later one with a failure", scriptFails(mail, "crow"), 0);
    }

    private static void wrong(CrowMail mail, String script, int due) {
        String before = Picture.of(mail);
        Mails.type(mail, script);
        CHECK.same("\"" + script + "\"", Check.thrownBy(mail::runScript), "IllegalArgumentException");
        CHECK.same("position of \"" + script + "\"", Check.thrownBy(mail::errorPosition), "answered " + due);
        CHECK.same("\"" + script + "\" changes nothing", Picture.of(mail), before);
    }

    /** The index of the command that failed, or -1 if none did. */
    private static int scriptFails(CrowMail mail, String script) {
        Mails.type(mail, script);
        return "IllegalStateException".equals(Check.thrownBy(mail::runScript)) ? mail.failedCommand() : -1;
    }
}
