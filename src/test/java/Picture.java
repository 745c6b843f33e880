/** What the calls of the face that change nothing tell of an object, as a text to compare. */
final class Picture {
    private Picture() {
    }

    static String of(CrowMail mail) {
        StringBuilder text = new StringBuilder();
        text.append("time ").append(mail.time()).append(" wind ").append(mail.wind());
        text.append(" totals ").append(mail.publishedTotal()).append(' ').append(mail.deliveredTotal());
        text.append(' ').append(mail.readTotal()).append(' ').append(mail.duplicateTotal());
        text.append(' ').append(mail.failedTotal()).append(' ').append(mail.arrivalTotal());
        text.append(' ').append(mail.messageCountByTotals());
        for (int nest = 0; nest < mail.nestCount(); nest++) {
            addNest(text, mail, nest);
        }
        for (int crow = 0; crow < mail.crowCount(); crow++) {
            text.append("\ncrow ").append(crow).append(' ').append(mail.flightMinutes(crow));
            text.append(mail.isFlying(crow) ? " with " + mail.carriedMessage(crow) : " free");
        }
        for (int position = 0; position < mail.messageCount(); position++) {
            addMessage(text, mail, mail.messageAt(position));
        }
        return text.append('\n').toString();
    }

    private static void addNest(StringBuilder text, CrowMail mail, int nest) {
        text.append("\nnest ").append(nest).append(' ').append(mail.distance(nest)).append(' ').append(mail.loss(nest));
        text.append(" ranked ").append(mail.nestByDeliveries(nest)).append(" inbox");
        for (int position = 0; position < mail.inboxSize(nest); position++) {
            text.append(' ').append(mail.inboxMessage(nest, position));
        }
        text.append(" knows ").append(mail.rememberedCount(nest)).append(':');
        for (int key = 0; key < 100; key++) {
            text.append(mail.remembers(nest, key) ? " " + key : "");
        }
    }

    private static void addMessage(StringBuilder text, CrowMail mail, int message) {
        text.append("\nmessage ").append(message).append(' ').append(mail.nestOf(message));
        text.append(' ').append(mail.keyOf(message)).append(' ').append(mail.attempts(message));
        text.append(' ').append(mail.status(message));
        text.append(mail.status(message) == 'n' ? " " + mail.napMinutes(message) : "");
    }

    static String ofOutput(CrowMail mail) {
        StringBuilder text = new StringBuilder();
        try {
            for (int index = 0; index < 1000; index++) {
                text.append(mail.outputAt(index));
            }
        } catch (IndexOutOfBoundsException e) {
            return text.toString();
        }
        return "an output text without an end";
    }

    static String ofScripts(CrowMail mail) {
        return " error " + Check.thrownBy(mail::errorPosition) + " failed " + Check.thrownBy(mail::failedCommand);
    }
}
