import java.util.ArrayList;
import java.util.Comparator;
import java.util.List;
import java.util.NoSuchElementException;
import java.util.function.IntSupplier;
import java.util.regex.Matcher;
import java.util.regex.Pattern;

/** A second model of the document, written from its words with the whole Java library; ModelTest compares. */
public final class PlainModel {
    private static final class Nest {
        int distance;
        int loss;
        int deliveries;
        List<Integer> inbox = new ArrayList<>();
        List<Integer> keys = new ArrayList<>();

        Nest copy() {
            Nest copy = new Nest();
            copy.distance = distance;
            copy.loss = loss;
            copy.deliveries = deliveries;
            copy.inbox = new ArrayList<>(inbox);
            copy.keys = new ArrayList<>(keys);
            return copy;
        }
    }

    private static final class Crow {
        int message = -1;
        int minutesLeft = 0;

        Crow copy() {
            Crow copy = new Crow();
            copy.message = message;
            copy.minutesLeft = minutesLeft;
            return copy;
        }
    }

    private static final class Message {
        int id;
        int nest;
        int key;
        int attempts;
        char status = 'w';
        int napLeft;
        boolean napBegunNow;

        Message copy() {
            Message copy = new Message();
            copy.id = id;
            copy.nest = nest;
            copy.key = key;
            copy.attempts = attempts;
            copy.status = status;
            copy.napLeft = napLeft;
            copy.napBegunNow = napBegunNow;
            return copy;
        }
    }

    private static final class State {
        List<Nest> nests = new ArrayList<>();
        List<Crow> crows = new ArrayList<>();
        List<Message> messages = new ArrayList<>();
        int nextId;
        int time;
        int wind;
        int published;
        int delivered;
        int read;
        int duplicates;
        int failed;
        int cancelled;
        int arrivals;

        State copy() {
            State copy = new State();
            for (Nest nest : nests) {
                copy.nests.add(nest.copy());
            }
            for (Crow crow : crows) {
                copy.crows.add(crow.copy());
            }
            for (Message message : messages) {
                copy.messages.add(message.copy());
            }
            copy.nextId = nextId;
            copy.time = time;
            copy.wind = wind;
            copy.published = published;
            copy.delivered = delivered;
            copy.read = read;
            copy.duplicates = duplicates;
            copy.failed = failed;
            copy.cancelled = cancelled;
            copy.arrivals = arrivals;
            return copy;
        }
    }

    private State state = new State();
    private State snapshot = null;
    private final List<State> undoable = new ArrayList<>();
    private boolean inScript = false;
    private String buffer = "";
    private String output = "";
    private int errorPosition = -1;
    private int failedCommand = -1;

    private int change(IntSupplier body) {
        State before = state.copy();
        int answer;
        try {
            answer = body.getAsInt();
        } catch (RuntimeException e) {
            state = before;
            throw e;
        }
        if (!inScript) {
            undoable.add(before);
            if (undoable.size() > 8) {
                undoable.remove(0);
            }
        }
        return answer;
    }

    private Nest nest(int index) {
        if (index < 0 || index >= state.nests.size()) {
            throw new IndexOutOfBoundsException();
        }
        return state.nests.get(index);
    }

    private Crow crow(int index) {
        if (index < 0 || index >= state.crows.size()) {
            throw new IndexOutOfBoundsException();
        }
        return state.crows.get(index);
    }

    private Message message(int id) {
        for (Message message : state.messages) {
            if (message.id == id) {
                return message;
            }
        }
        throw new NoSuchElementException();
    }

    public int addNest(int distance, int loss) {
        return change(() -> {
            if (distance < 1 || distance > 9 || loss < 0 || loss > 4) {
                throw new IllegalArgumentException();
            }
            if (state.nests.size() == 6) {
                throw new IllegalStateException();
            }
            Nest nest = new Nest();
            nest.distance = distance;
            nest.loss = loss;
            state.nests.add(nest);
            return state.nests.size() - 1;
        });
    }

    public int addCrow() {
        return change(() -> {
            if (state.crows.size() == 4) {
                throw new IllegalStateException();
            }
            state.crows.add(new Crow());
            return state.crows.size() - 1;
        });
    }

    public int publish(int nest, int key) {
        return change(() -> {
            nest(nest);
            if (key < 0 || key > 99) {
                throw new IllegalArgumentException();
            }
            if (state.messages.size() == 16) {
                throw new IllegalStateException();
            }
            Message message = new Message();
            message.id = state.nextId++;
            message.nest = nest;
            message.key = key;
            state.messages.add(message);
            state.published++;
            return message.id;
        });
    }

    public int read(int nest) {
        return change(() -> {
            Nest owner = nest(nest);
            if (owner.inbox.isEmpty()) {
                throw new NoSuchElementException();
            }
            int id = owner.inbox.remove(0);
            state.messages.remove(message(id));
            state.read++;
            return id;
        });
    }

    public int cancel(int id) {
        return change(() -> {
            Message message = message(id);
            if (message.status == 'f' || message.status == 'd') {
                throw new IllegalStateException();
            }
            state.messages.remove(message);
            state.cancelled++;
            return state.messages.size();
        });
    }

    public int setWind(int force) {
        return change(() -> {
            if (force < 0 || force > 9) {
                throw new IllegalArgumentException();
            }
            int previous = state.wind;
            state.wind = force;
            return previous;
        });
    }

    public int forget(int nest) {
        return change(() -> {
            int known = nest(nest).keys.size();
            nest(nest).keys.clear();
            return known;
        });
    }

    public int advance(int minutes) {
        return change(() -> {
            if (minutes < 1 || minutes > 100) {
                throw new IllegalArgumentException();
            }
            int before = state.delivered;
            for (int i = 0; i < minutes; i++) {
                minute();
            }
            return state.delivered - before;
        });
    }

    private void minute() {
        state.time++;
        for (Message message : state.messages) {
            message.napBegunNow = false;
        }
        for (Crow crow : state.crows) {
            if (crow.message >= 0) {
                crow.minutesLeft--;
                if (crow.minutesLeft == 0) {
                    int id = crow.message;
                    crow.message = -1;
                    arrive(message(id));
                }
            }
        }
        for (Message message : state.messages) {
            if (message.status == 'n' && !message.napBegunNow) {
                message.napLeft--;
                if (message.napLeft == 0) {
                    message.status = 'w';
                }
            }
        }
        for (Crow crow : state.crows) {
            List<Message> waiting = waiting();
            if (crow.message < 0 && !waiting.isEmpty()) {
                Message first = waiting.get(0);
                first.status = 'f';
                crow.message = first.id;
                crow.minutesLeft = nest(first.nest).distance;
                if (state.wind > 5) {
                    crow.minutesLeft++;
                }
            }
        }
    }

    private void arrive(Message message) {
        Nest nest = nest(message.nest);
        message.attempts++;
        state.arrivals++;
        boolean lost = (message.id + message.attempts + state.wind) % 5 < nest.loss;
        boolean known = nest.keys.contains(message.key);
        if (!lost && known) {
            state.messages.remove(message);
            state.duplicates++;
            return;
        }
        if (!lost && !known && nest.inbox.size() < 8) {
            message.status = 'd';
            nest.inbox.add(message.id);
            nest.deliveries++;
            if (nest.keys.size() == 8) {
                nest.keys.remove(0);
            }
            nest.keys.add(message.key);
            state.delivered++;
            return;
        }
        if (message.attempts == 5) {
            state.messages.remove(message);
            state.failed++;
            return;
        }
        message.status = 'n';
        message.napLeft = (int) Math.pow(2, message.attempts);
        message.napBegunNow = true;
    }

    private List<Message> waiting() {
        List<Message> waiting = new ArrayList<>();
        for (Message message : state.messages) {
            if (message.status == 'w') {
                waiting.add(message);
            }
        }
        waiting.sort(Comparator.<Message>comparingInt(m -> m.attempts).thenComparingInt(m -> m.id));
        return waiting;
    }

    public int nestCount() {
        return state.nests.size();
    }

    public int distance(int nest) {
        return nest(nest).distance;
    }

    public int loss(int nest) {
        return nest(nest).loss;
    }

    public int inboxSize(int nest) {
        return nest(nest).inbox.size();
    }

    public int inboxMessage(int nest, int position) {
        Nest owner = nest(nest);
        if (position < 0 || position >= owner.inbox.size()) {
            throw new NoSuchElementException();
        }
        return owner.inbox.get(position);
    }

    public boolean remembers(int nest, int key) {
        return nest(nest).keys.contains(key);
    }

    public int rememberedCount(int nest) {
        return nest(nest).keys.size();
    }

    public int nestByDeliveries(int rank) {
        List<Integer> order = new ArrayList<>();
        for (int i = 0; i < state.nests.size(); i++) {
            order.add(i);
        }
        order.sort(Comparator.<Integer>comparingInt(i -> -nest(i).deliveries)
            .thenComparingInt(i -> nest(i).distance).thenComparingInt(i -> i));
        if (rank < 0 || rank >= order.size()) {
            throw new NoSuchElementException();
        }
        return order.get(rank);
    }

    public int crowCount() {
        return state.crows.size();
    }

    public boolean isFlying(int crow) {
        return crow(crow).message >= 0;
    }

    public int carriedMessage(int crow) {
        if (crow(crow).message < 0) {
            throw new NoSuchElementException();
        }
        return crow(crow).message;
    }

    public int flightMinutes(int crow) {
        return crow(crow).message < 0 ? 0 : crow(crow).minutesLeft;
    }

    public int messageCount() {
        return state.messages.size();
    }

    public int messageAt(int position) {
        if (position < 0 || position >= state.messages.size()) {
            throw new NoSuchElementException();
        }
        List<Message> order = new ArrayList<>(state.messages);
        order.sort(Comparator.comparingInt(m -> m.id));
        return order.get(position).id;
    }

    public int nestOf(int id) {
        return message(id).nest;
    }

    public int keyOf(int id) {
        return message(id).key;
    }

    public int attempts(int id) {
        return message(id).attempts;
    }

    public char status(int id) {
        return message(id).status;
    }

    public int napMinutes(int id) {
        if (message(id).status != 'n') {
            throw new IllegalStateException();
        }
        return message(id).napLeft;
    }

    public int waitingMessage(int rank) {
        if (rank < 0 || rank >= waiting().size()) {
            throw new NoSuchElementException();
        }
        return waiting().get(rank).id;
    }

    public boolean wouldBeLost(int id) {
        Message message = message(id);
        if (message.status == 'd') {
            throw new IllegalStateException();
        }
        return (message.id + message.attempts + 1 + state.wind) % 5 < nest(message.nest).loss;
    }

    public long napLength(int attempts) {
        if (attempts < 0 || attempts > 40) {
            throw new IllegalArgumentException();
        }
        return (long) Math.pow(2, attempts);
    }

    public long napLengthByDoubling(int attempts) {
        return napLength(attempts);
    }

    public int minutesUntilDelivered(int id) {
        if (message(id).status == 'd') {
            throw new IllegalStateException();
        }
        State now = state;
        state = now.copy();
        int found = -1;
        for (int minutes = 1; minutes <= 100 && found < 0; minutes++) {
            minute();
            for (Nest nest : state.nests) {
                if (nest.inbox.contains(id)) {
                    found = minutes;
                }
            }
        }
        state = now;
        if (found < 0) {
            throw new IllegalStateException();
        }
        return found;
    }

    public int time() {
        return state.time;
    }

    public int wind() {
        return state.wind;
    }

    public int publishedTotal() {
        return state.published;
    }

    public int deliveredTotal() {
        return state.delivered;
    }

    public int readTotal() {
        return state.read;
    }

    public int duplicateTotal() {
        return state.duplicates;
    }

    public int failedTotal() {
        return state.failed;
    }

    public int arrivalTotal() {
        return state.arrivals;
    }

    public int messageCountByTotals() {
        return state.published - (state.read + state.duplicates + state.failed + state.cancelled);
    }

    public double meanAttempts() {
        if (state.messages.isEmpty()) {
            throw new ArithmeticException();
        }
        int sum = 0;
        for (Message message : state.messages) {
            sum += message.attempts;
        }
        return (double) sum / (double) state.messages.size();
    }

    public long meanAttemptsBits() {
        return Double.doubleToLongBits(meanAttempts());
    }

    public float deliveryRate() {
        if (state.arrivals == 0) {
            throw new ArithmeticException();
        }
        return (float) state.delivered / (float) state.arrivals;
    }

    public int deliveryRateBits() {
        return Float.floatToIntBits(deliveryRate());
    }

    public boolean isConsistent() {
        int flying = 0;
        int delivered = 0;
        for (Message message : state.messages) {
            flying += message.status == 'f' ? 1 : 0;
            delivered += message.status == 'd' ? 1 : 0;
        }
        for (Crow crow : state.crows) {
            flying -= crow.message >= 0 ? 1 : 0;
        }
        for (Nest nest : state.nests) {
            delivered -= nest.inbox.size();
        }
        return flying == 0 && delivered == 0 && messageCount() == messageCountByTotals();
    }

    public int renderMessage(int id) {
        Message message = message(id);
        output = id + ">" + message.nest + "k" + message.key + "a" + message.attempts + message.status;
        return output.length();
    }

    public int renderCrows() {
        output = "";
        for (Crow crow : state.crows) {
            String digits = String.valueOf(crow.message);
            output += crow.message < 0 ? "." : digits.substring(digits.length() - 1);
        }
        return output.length();
    }

    public char outputAt(int index) {
        if (index < 0 || index >= output.length()) {
            throw new IndexOutOfBoundsException();
        }
        return output.charAt(index);
    }

    public int type(char character) {
        if (character < 32 || character > 126) {
            throw new IllegalArgumentException();
        }
        if (buffer.length() == 60) {
            throw new IllegalStateException();
        }
        buffer += character;
        return buffer.length();
    }

    private static final String NUMBER = "[0-9]([0-9]([0-9])?)?";
    private static final String COMMAND = "(nest [0-9] [0-9]|crow|send [0-9] " + NUMBER + "|read [0-9]|drop " + NUMBER
        + "|wind [0-9]|forget [0-9]|wait( " + NUMBER + ")?)";
    private static final Pattern SCRIPT = Pattern.compile(COMMAND + "(;" + COMMAND + ")*");

    private static int errorPositionOf(String script) {
        for (int i = 0; i < script.length(); i++) {
            Matcher matcher = SCRIPT.matcher(script.substring(0, i + 1));
            if (!matcher.matches() && !matcher.hitEnd()) {
                return i;
            }
        }
        return script.length();
    }

    public int runScript() {
        String text = buffer;
        buffer = "";
        if (!SCRIPT.matcher(text).matches()) {
            errorPosition = errorPositionOf(text);
            throw new IllegalArgumentException();
        }
        return change(() -> {
            String[] commands = text.split(";");
            inScript = true;
            for (int i = 0; i < commands.length; i++) {
                try {
                    perform(commands[i].split(" "));
                } catch (RuntimeException e) {
                    inScript = false;
                    failedCommand = i;
                    throw new IllegalStateException();
                }
            }
            inScript = false;
            return commands.length;
        });
    }

    private void perform(String[] words) {
        int first = words.length > 1 ? Integer.parseInt(words[1]) : 1;
        int second = words.length > 2 ? Integer.parseInt(words[2]) : 0;
        switch (words[0]) {
            case "nest": addNest(first, second); break;
            case "crow": addCrow(); break;
            case "send": publish(first, second); break;
            case "read": read(first); break;
            case "drop": cancel(first); break;
            case "wind": setWind(first); break;
            case "forget": forget(first); break;
            case "wait": advance(first); break;
            default: throw new AssertionError(words[0]);
        }
    }

    public int errorPosition() {
        if (errorPosition < 0) {
            throw new NoSuchElementException();
        }
        return errorPosition;
    }

    public int failedCommand() {
        if (failedCommand < 0) {
            throw new NoSuchElementException();
        }
        return failedCommand;
    }

    public int undo() {
        if (undoable.isEmpty()) {
            throw new NoSuchElementException();
        }
        state = undoable.remove(undoable.size() - 1);
        return undoable.size();
    }

    public int save() {
        snapshot = state.copy();
        return state.messages.size();
    }

    public int restore() {
        if (snapshot == null) {
            throw new IllegalStateException();
        }
        state = snapshot.copy();
        undoable.clear();
        return state.messages.size();
    }
}
