import java.util.NoSuchElementException;

/** Promises 51 to 54: typing and running scripts. */
public final class ScriptTest {
    private static final Class<?> ARGUMENT = IllegalArgumentException.class;
    private static final Class<?> STATE = IllegalStateException.class;
    private static final Class<?> ELEMENT = NoSuchElementException.class;
    private static final Check CHECK = new Check("ScriptTest");

    public static void main(String[] args) {
        CHECK.each(ScriptTest::typing, ScriptTest::commands, ScriptTest::waits, ScriptTest::numbers,
            ScriptTest::longScripts, ScriptTest::errorPositions, ScriptTest::failures, ScriptTest::allOrNone,
            ScriptTest::keptPositions);
        CHECK.finish();
    }

    private static void typing() {
        CrowMail mail = new CrowMail();
        for (char wrong : new char[] {0, 31, 127, 128, 255, 0x3bb, 0xffff, '\n', '\t'}) {
            CHECK.refused("51: code " + (int) wrong, mail, ARGUMENT, () -> mail.type(wrong));
        }
        CHECK.same("51: code 32", mail.type(' '), 1);
        CHECK.same("51: code 126", mail.type('~'), 2);
        for (int length = 3; length <= 60; length++) {
            CHECK.same("51: length", mail.type('x'), length);
        }
        CHECK.refused("51: full", mail, STATE, () -> mail.type('x'));
        CHECK.refused("51: full and wrong", mail, ARGUMENT, () -> mail.type('\n'));
        CHECK.same("52: the form", Check.thrownBy(mail::runScript), "IllegalArgumentException");
        CHECK.same("51: empty again", mail.type('x'), 1);
    }

    private static void commands() {
        CrowMail mail = new CrowMail();
        CHECK.same("52: nest", Mails.run(mail, "nest 3 2"), 1);
        CHECK.same("52: distance", mail.distance(0), 3);
        CHECK.same("52: loss", mail.loss(0), 2);
        CHECK.same("51: empty after a script", mail.type('c'), 1);
        CHECK.same("52: crow", Mails.run(mail, "row"), 1);
        CHECK.same("52: crows", mail.crowCount(), 1);
        CHECK.same("52: send", Mails.run(mail, "send 0 42;nest 1 0;send 1 7"), 3);
        CHECK.same("52: key", mail.keyOf(0), 42);
        CHECK.same("52: nest of the second", mail.nestOf(1), 1);
        CHECK.same("52: drop", Mails.run(mail, "drop 0"), 1);
        CHECK.same("52: dropped", Check.thrownBy(() -> mail.status(0)), "NoSuchElementException");
        CHECK.same("52: wind", Mails.run(mail, "wind 6"), 1);
        CHECK.same("52: force", mail.wind(), 6);
        CHECK.same("52: wait", Mails.run(mail, "wait"), 1);
        CHECK.same("52: flight", mail.flightMinutes(0), 2);
        CHECK.same("52: wait 2", Mails.run(mail, "wait 2"), 1);
        CHECK.same("52: delivered", mail.inboxSize(1), 1);
        CHECK.same("52: read", Mails.run(mail, "read 1"), 1);
        CHECK.same("52: it was read", mail.readTotal(), 1);
        CHECK.same("52: forget", Mails.run(mail, "forget 1"), 1);
        CHECK.same("52: forgotten", mail.rememberedCount(1), 0);
        CHECK.same("52: time", mail.time(), 3);
    }

    private static void waits() {
        CrowMail mail = new CrowMail();
        CHECK.same("52: waits", Mails.run(mail, "wait;wait 10;wait 100;wait 001;wait"), 5);
        CHECK.same("52: time", mail.time(), 113);
        failed(mail, "wait 0", 0);
        failed(mail, "wait;wait 101", 1);
        failed(mail, "wait;wait;wait 999", 2);
        CHECK.same("52: time stays", mail.time(), 113);
    }

    private static void numbers() {
        CrowMail mail = Mails.with(0, 1, 0);
        Mails.run(mail, "send 0 7;send 0 07;send 0 007;send 0 0;send 0 099");
        CHECK.same("52: keys", mail.keyOf(0) + mail.keyOf(1) + mail.keyOf(2) + mail.keyOf(3) + mail.keyOf(4), 120);
        failed(mail, "send 0 100", 0);
        Mails.run(mail, "drop 003;drop 4");
        CHECK.same("52: dropped", mail.messageCount(), 3);
        for (int id = 5; id < 123; id++) {
            mail.publish(0, 1);
            if (id < 121) {
                mail.cancel(id);
            }
        }
        Mails.run(mail, "drop 121;drop 0");
        CHECK.same("52: three digits", mail.messageCount(), 3);
        CHECK.same("52: 122 is left", mail.messageAt(2), 122);
    }

    private static void longScripts() {
        CrowMail mail = new CrowMail();
        CHECK.same("52: twelve commands", Mails.run(mail, "wait;".repeat(11) + "wait"), 12);
        CHECK.same("52: sixty characters",
            Mails.run(mail, "nest 1 0;crow;send 0 1;wait 2;read 0;forget 0;wind 9;wait 10"), 8);
        CHECK.same("52: time", mail.time(), 24);
        CHECK.same("52: read", mail.readTotal(), 1);
        wrong(mail, "wait;".repeat(12), 60);
        wrong(mail, "wait;".repeat(11) + "wait ", 60);
        wrong(mail, "wait;".repeat(11) + "wait;", 60);
        wrong(mail, "wait;".repeat(11) + "waits", 59);
    }

    private static void errorPositions() {
        CrowMail mail = Mails.with(1, 1, 0);
        wrong(mail, "", 0);
        String[] whole = {"nest 1 0", "crow", "send 0 1", "read 0", "drop 1", "wind 1", "forget 0", "wait", "wait 1"};
        for (String command : whole) {
            for (int length = 0; length < command.length(); length++) {
                if (!command.substring(0, length).equals("wait")) {
                    wrong(mail, command.substring(0, length), length);
                    wrong(mail, "wait;" + command.substring(0, length), 5 + length);
                    wrong(mail, command.substring(0, length) + ";", length);
                }
                wrong(mail, command.substring(0, length) + "#", length);
                wrong(mail, command.substring(0, length) + "#" + command.substring(length), length);
            }
            wrong(mail, command + "x", command.length());
            wrong(mail, command + ";", command.length() + 1);
            wrong(mail, command + ";;", command.length() + 1);
            wrong(mail, command + "; wait", command.length() + 1);
        }
        wrong(mail, "nest 10", 6);
        wrong(mail, "nest 1 00", 8);
        wrong(mail, "nest  1 0", 5);
        wrong(mail, "crow ", 4);
        wrong(mail, "send 00 1", 6);
        wrong(mail, "send 0 1234", 10);
        wrong(mail, "send 0 1 ", 8);
        wrong(mail, "read 00", 6);
        wrong(mail, "drop 1234", 8);
        wrong(mail, "drop -1", 5);
        wrong(mail, "wind 10", 6);
        wrong(mail, "wait 1234", 8);
        wrong(mail, "wait;;", 5);
        wrong(mail, " wait", 0);
        wrong(mail, "Wait", 0);
        wrong(mail, "wa1t", 2);
        wrong(mail, "wand 1", 2);
        wrong(mail, "wint", 3);
        wrong(mail, "reap", 3);
        wrong(mail, "crow;crow;cron", 13);
        CHECK.same("52: a script of the wrong form does nothing", mail.time(), 0);
        CHECK.same("52: no crows added", mail.crowCount(), 1);
    }

    private static void wrong(CrowMail mail, String script, int due) {
        String before = Picture.of(mail);
        Mails.type(mail, script);
        CHECK.same("52: \"" + script + "\"", Check.thrownBy(mail::runScript), "IllegalArgumentException");
        CHECK.same("53: \"" + script + "\"", Check.thrownBy(mail::errorPosition), "answered " + due);
        CHECK.same("52: \"" + script + "\" changes nothing", Picture.of(mail), before);
        CHECK.same("52: empty after \"" + script + "\"", mail.type('?'), 1);
        Check.thrownBy(mail::runScript);
    }

    private static void failed(CrowMail mail, String script, int due) {
        String before = Picture.of(mail);
        Mails.type(mail, script);
        CHECK.same("52: \"" + script + "\"", Check.thrownBy(mail::runScript), "IllegalStateException");
        CHECK.same("54: \"" + script + "\"", Check.thrownBy(mail::failedCommand), "answered " + due);
        CHECK.same("52: \"" + script + "\" changes nothing", Picture.of(mail), before);
    }

    private static void failures() {
        CrowMail mail = Mails.with(1, 1, 0, 2, 0);
        mail.publish(0, 1);
        mail.advance(1);
        String[] commands = {"nest 0 0", "nest 1 5", "send 2 1", "send 0 100", "send 9 999", "read 0", "read 2",
            "drop 0", "drop 2", "forget 2", "wait 0"};
        for (String command : commands) {
            failed(mail, command, 0);
            failed(mail, "wind 9;send 1 5;forget 0;crow;" + command, 4);
        }
        failed(mail, "crow;crow;crow;crow", 3);
        failed(mail, "nest 1 0;nest 1 0;nest 1 0;nest 1 0;nest 1 0", 4);
        CHECK.same("51: empty after a failure", mail.type('x'), 1);
        CHECK.same("52: wrong form", Check.thrownBy(mail::runScript), "IllegalArgumentException");
    }

    /** The form is looked at first: no command is tried in a script that ends wrongly. */
    private static void allOrNone() {
        CrowMail mail = Mails.with(1, 1, 0);
        wrong(mail, "crow;read 0;wai", 15);
        CHECK.refused("54: no command has failed", mail, ELEMENT, () -> mail.failedCommand());
        mail.undo();
        CHECK.same("55: a wrong script is no change", mail.crowCount(), 0);
        failed(mail, "crow;read 0;crow", 1);
        mail.undo();
        CHECK.same("55: a failed script is no change", mail.nestCount(), 0);
    }

    private static void keptPositions() {
        CrowMail mail = new CrowMail();
        CHECK.refused("53: no script", mail, ELEMENT, () -> mail.errorPosition());
        CHECK.refused("54: no script", mail, ELEMENT, () -> mail.failedCommand());
        Mails.run(mail, "crow;wait");
        CHECK.refused("53: a good script", mail, ELEMENT, () -> mail.errorPosition());
        CHECK.refused("54: a good script", mail, ELEMENT, () -> mail.failedCommand());
        failed(mail, "wait;read 0", 1);
        CHECK.refused("53: a failed script", mail, ELEMENT, () -> mail.errorPosition());
        wrong(mail, "waiting", 4);
        mail.save();
        Mails.type(mail, "cro");
        mail.undo();
        mail.restore();
        CHECK.same("51: undo and restore leave the buffer", mail.type('w'), 4);
        CHECK.same("52: and it runs", mail.runScript(), 1);
        CHECK.same("54: kept", mail.failedCommand(), 1);
        Mails.type(mail, "nest x");
        CHECK.same("52: form", Check.thrownBy(mail::runScript), "IllegalArgumentException");
        CHECK.same("53: the latest", mail.errorPosition(), 5);
        Mails.run(mail, "wait");
        CHECK.same("53: kept", mail.errorPosition(), 5);
        CHECK.same("54: still kept", mail.failedCommand(), 1);
        failed(mail, "read 0", 0);
        CHECK.same("53: kept over a failure", mail.errorPosition(), 5);
    }
}
