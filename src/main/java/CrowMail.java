import java.util.NoSuchElementException;

/** A message service run by crows; what each call does stands in the project's document. */
public final class CrowMail {
    private static final int MOST_NESTS = 6;
    private static final int MOST_CROWS = 4;
    private static final int MOST_MESSAGES = 16;
    private static final int MOST_IN_INBOX = 8;
    private static final int MOST_REMEMBERED = 8;
    private static final int MOST_CHANGES = 8;
    private static final int MOST_CHARACTERS = 60;
    private static final int MOST_DISTANCE = 9;
    private static final int MOST_LOSS = 4;
    private static final int MOST_KEY = 99;
    private static final int MOST_FORCE = 9;
    private static final int CALM_FORCE = 5;
    private static final int LOSS_CYCLE = 5;
    private static final int MOST_ATTEMPTS = 5;
    private static final int MOST_MINUTES = 100;
    private static final int MOST_NAP_ATTEMPTS = 40;
    private static final int MOST_NUMBER_DIGITS = 3;

    private static final char WAITING = 'w';
    private static final char FLYING = 'f';
    private static final char NAPPING = 'n';
    private static final char DELIVERED = 'd';

    // A change answers 0 or more, so that a number below 0 can tell why it was refused.
    private static final int BAD_ARGUMENT = -1;
    private static final int BAD_STATE = -2;
    private static final int NO_INDEX = -3;
    private static final int NO_ELEMENT = -4;

    private static final int NONE = -1;

    private static final int DOUBLE_FRACTION = 52;
    private static final int DOUBLE_BIAS = 1023;
    private static final int FLOAT_FRACTION = 23;
    private static final int FLOAT_BIAS = 127;
    private static final int MOST_HALVINGS = 1100;

    private static final Form[] FORMS = Form.values();

    private final State state = new State();
    private final State before = new State();
    private final State foreseen = new State();
    private final State snapshot = new State();
    private final History history = new History();
    private final Script script = new Script();
    private final StringBuilder output = new StringBuilder();
    private boolean hasSnapshot = false;
    private int latestErrorPosition = NONE;
    private int latestFailedCommand = NONE;

    public CrowMail() {
    }

    // changes

    public int addNest(int distance, int loss) throws IllegalArgumentException, IllegalStateException {
        before.copyFrom(state);
        return settle(state.openNest(distance, loss));
    }

    public int addCrow() throws IllegalStateException {
        before.copyFrom(state);
        return settle(state.hireCrow());
    }

    public int publish(int nest, int key)
        throws IndexOutOfBoundsException, IllegalArgumentException, IllegalStateException {
        before.copyFrom(state);
        return settle(state.post(nest, key));
    }

    public int read(int nest) throws IndexOutOfBoundsException, NoSuchElementException {
        before.copyFrom(state);
        return settle(state.handOver(nest));
    }

    public int cancel(int message) throws NoSuchElementException, IllegalStateException {
        before.copyFrom(state);
        return settle(state.withdraw(message));
    }

    public int setWind(int force) throws IllegalArgumentException {
        before.copyFrom(state);
        return settle(state.turnWind(force));
    }

    public int forget(int nest) throws IndexOutOfBoundsException {
        before.copyFrom(state);
        return settle(state.clearKeys(nest));
    }

    public int advance(int minutes) throws IllegalArgumentException {
        before.copyFrom(state);
        return settle(state.pass(minutes));
    }

    private int settle(int answer) {
        if (answer == BAD_ARGUMENT) {
            throw new IllegalArgumentException("the argument is out of its range");
        }
        if (answer == BAD_STATE) {
            throw new IllegalStateException("the state does not allow this change");
        }
        if (answer == NO_INDEX) {
            throw new IndexOutOfBoundsException("there is no such nest");
        }
        if (answer == NO_ELEMENT) {
            throw new NoSuchElementException("there is no such message");
        }
        history.remember(before);
        return answer;
    }

    // nests

    public int nestCount() {
        return state.nestCount;
    }

    public int distance(int nest) throws IndexOutOfBoundsException {
        return existingNest(nest).distance;
    }

    public int loss(int nest) throws IndexOutOfBoundsException {
        return existingNest(nest).loss;
    }

    public int inboxSize(int nest) throws IndexOutOfBoundsException {
        return existingNest(nest).inboxSize;
    }

    public int inboxMessage(int nest, int position) throws IndexOutOfBoundsException, NoSuchElementException {
        Nest asked = existingNest(nest);
        if (position < 0 || position >= asked.inboxSize) {
            throw new NoSuchElementException("there is no such position");
        }
        return asked.inbox[position];
    }

    public boolean remembers(int nest, int key) throws IndexOutOfBoundsException {
        return existingNest(nest).knows(key);
    }

    public int rememberedCount(int nest) throws IndexOutOfBoundsException {
        return existingNest(nest).keyCount;
    }

    public int nestByDeliveries(int rank) throws NoSuchElementException {
        int nest = state.nestAtRank(rank);
        if (nest == NONE) {
            throw new NoSuchElementException("there is no such rank");
        }
        return nest;
    }

    private Nest existingNest(int index) {
        Nest nest = state.nestAt(index);
        if (nest == null) {
            throw new IndexOutOfBoundsException("there is no such nest");
        }
        return nest;
    }

    // crows

    public int crowCount() {
        return state.crowCount;
    }

    public boolean isFlying(int crow) throws IndexOutOfBoundsException {
        return existingCrow(crow).flying;
    }

    public int carriedMessage(int crow) throws IndexOutOfBoundsException, NoSuchElementException {
        Crow asked = existingCrow(crow);
        if (!asked.flying) {
            throw new NoSuchElementException("the crow is free");
        }
        return asked.message;
    }

    public int flightMinutes(int crow) throws IndexOutOfBoundsException {
        Crow asked = existingCrow(crow);
        return asked.flying ? asked.landsAt - state.time : 0;
    }

    private Crow existingCrow(int index) {
        Crow crow = state.crowAt(index);
        if (crow == null) {
            throw new IndexOutOfBoundsException("there is no such crow");
        }
        return crow;
    }

    // messages

    public int messageCount() {
        return state.messageCount;
    }

    public int messageAt(int position) throws NoSuchElementException {
        if (position < 0 || position >= state.messageCount) {
            throw new NoSuchElementException("there is no such position");
        }
        return state.messages[position].id;
    }

    public int nestOf(int message) throws NoSuchElementException {
        return existingMessage(message).nest;
    }

    public int keyOf(int message) throws NoSuchElementException {
        return existingMessage(message).key;
    }

    public int attempts(int message) throws NoSuchElementException {
        return existingMessage(message).attempts;
    }

    public char status(int message) throws NoSuchElementException {
        return existingMessage(message).status;
    }

    public int napMinutes(int message) throws NoSuchElementException, IllegalStateException {
        Message asked = existingMessage(message);
        if (asked.status != NAPPING) {
            throw new IllegalStateException("the message is not napping");
        }
        return asked.wakesAt - state.time;
    }

    public int waitingMessage(int rank) throws NoSuchElementException {
        Message waiting = state.waitingAtRank(rank);
        if (waiting == null) {
            throw new NoSuchElementException("there is no such rank");
        }
        return waiting.id;
    }

    public boolean wouldBeLost(int message) throws NoSuchElementException, IllegalStateException {
        Message asked = existingMessage(message);
        if (asked.status == DELIVERED) {
            throw new IllegalStateException("the message is delivered");
        }
        return state.isLost(asked, asked.attempts + 1);
    }

    public long napLength(int attempts) throws IllegalArgumentException {
        if (attempts < 0 || attempts > MOST_NAP_ATTEMPTS) {
            throw new IllegalArgumentException("attempts are 0 to 40");
        }
        return shiftedNap(attempts);
    }

    public long napLengthByDoubling(int attempts) throws IllegalArgumentException {
        if (attempts < 0 || attempts > MOST_NAP_ATTEMPTS) {
            throw new IllegalArgumentException("attempts are 0 to 40");
        }
        return doubledNap(attempts);
    }

    public int minutesUntilDelivered(int message) throws NoSuchElementException, IllegalStateException {
        if (existingMessage(message).status == DELIVERED) {
            throw new IllegalStateException("the message is delivered now");
        }
        int minutes = foreseenMinutes(message);
        if (minutes == NONE) {
            throw new IllegalStateException("the message would not be delivered within 100 minutes");
        }
        return minutes;
    }

    private Message existingMessage(int id) {
        Message message = state.messageWith(id);
        if (message == null) {
            throw new NoSuchElementException("there is no such message");
        }
        return message;
    }

    private int foreseenMinutes(int id) {
        foreseen.copyFrom(state);
        for (int minute = 1; minute <= MOST_MINUTES; minute++) {
            foreseen.pass(1);
            Message message = foreseen.messageWith(id);
            if (message == null) {
                return NONE;
            }
            if (message.status == DELIVERED) {
                return minute;
            }
        }
        return NONE;
    }

    private static long shiftedNap(int attempts) {
        return 1L << attempts;
    }

    private static long doubledNap(int attempts) {
        long minutes = 1;
        for (int i = 0; i < attempts; i++) {
            minutes = minutes + minutes;
        }
        return minutes;
    }

    // totals and checks

    public int time() {
        return state.time;
    }

    public int wind() {
        return state.wind;
    }

    public int publishedTotal() {
        return state.totals.published;
    }

    public int deliveredTotal() {
        return state.totals.delivered;
    }

    public int readTotal() {
        return state.totals.read;
    }

    public int duplicateTotal() {
        return state.totals.duplicates;
    }

    public int failedTotal() {
        return state.totals.failed;
    }

    public int arrivalTotal() {
        return state.totals.arrivals;
    }

    public int messageCountByTotals() {
        return state.totals.existing();
    }

    public double meanAttempts() throws ArithmeticException {
        if (state.messageCount == 0) {
            throw new ArithmeticException("there are no messages");
        }
        return meanOfAttempts();
    }

    public long meanAttemptsBits() throws ArithmeticException {
        if (state.messageCount == 0) {
            throw new ArithmeticException("there are no messages");
        }
        return bitsOf(meanOfAttempts(), DOUBLE_FRACTION, DOUBLE_BIAS);
    }

    public float deliveryRate() throws ArithmeticException {
        if (state.totals.arrivals == 0) {
            throw new ArithmeticException("there were no arrivals");
        }
        return rateOfDeliveries();
    }

    public int deliveryRateBits() throws ArithmeticException {
        if (state.totals.arrivals == 0) {
            throw new ArithmeticException("there were no arrivals");
        }
        return (int) bitsOf((double) rateOfDeliveries(), FLOAT_FRACTION, FLOAT_BIAS);
    }

    public boolean isConsistent() {
        return napLengthsAgree()
            && state.messageCount == state.totals.existing()
            && state.messagesWithStatus(FLYING) == state.flyingCrows()
            && state.messagesWithStatus(DELIVERED) == state.messagesInInboxes();
    }

    private double meanOfAttempts() {
        return (double) state.sumOfAttempts() / (double) state.messageCount;
    }

    private float rateOfDeliveries() {
        return (float) state.totals.delivered / (float) state.totals.arrivals;
    }

    // The part of Java that the program keeps to has no doubleToLongBits and no floatToIntBits.
    // Halving and doubling lose nothing, so the bits found here are the same.
    private static long bitsOf(double value, int fractionBits, int bias) {
        if (value <= 0) {
            return 0;
        }
        double scaled = value;
        int exponent = 0;
        for (int i = 0; i < MOST_HALVINGS && scaled >= 2; i++) {
            scaled = scaled / 2;
            exponent++;
        }
        for (int i = 0; i < MOST_HALVINGS && scaled < 1; i++) {
            scaled = scaled * 2;
            exponent--;
        }
        long fraction = (long) ((scaled - 1) * (double) (1L << fractionBits));
        return ((long) (exponent + bias) << fractionBits) + fraction;
    }

    private static boolean napLengthsAgree() {
        for (int attempts = 0; attempts <= MOST_NAP_ATTEMPTS; attempts++) {
            if (shiftedNap(attempts) != doubledNap(attempts)) {
                return false;
            }
        }
        return true;
    }

    // output and scripts

    public int renderMessage(int message) throws NoSuchElementException {
        Message asked = existingMessage(message);
        output.setLength(0);
        output.append(asked.id);
        output.append('>');
        output.append(asked.nest);
        output.append('k');
        output.append(asked.key);
        output.append('a');
        output.append(asked.attempts);
        output.append(asked.status);
        return output.length();
    }

    public int renderCrows() {
        output.setLength(0);
        for (int i = 0; i < state.crowCount; i++) {
            Crow crow = state.crows[i];
            if (crow.flying) {
                output.append(crow.message % 10);
            } else {
                output.append('.');
            }
        }
        return output.length();
    }

    public char outputAt(int index) throws IndexOutOfBoundsException {
        if (index < 0 || index >= output.length()) {
            throw new IndexOutOfBoundsException("there is no such character");
        }
        return output.charAt(index);
    }

    public int type(char character) throws IllegalArgumentException, IllegalStateException {
        if (character < ' ' || character > '~') {
            throw new IllegalArgumentException("character codes are 32 to 126");
        }
        if (script.length >= MOST_CHARACTERS) {
            throw new IllegalStateException("the script buffer is full");
        }
        return script.append(character);
    }

    public int runScript() throws IllegalArgumentException, IllegalStateException {
        boolean hasForm = script.split();
        script.length = 0;
        if (!hasForm) {
            latestErrorPosition = script.reached;
            throw new IllegalArgumentException("the script does not have the form");
        }
        before.copyFrom(state);
        for (int i = 0; i < script.commandCount; i++) {
            if (state.perform(script.commands[i]) < 0) {
                state.copyFrom(before);
                latestFailedCommand = i;
                throw new IllegalStateException("a command of the script failed");
            }
        }
        history.remember(before);
        return script.commandCount;
    }

    public int errorPosition() throws NoSuchElementException {
        if (latestErrorPosition == NONE) {
            throw new NoSuchElementException("every script had the form");
        }
        return latestErrorPosition;
    }

    public int failedCommand() throws NoSuchElementException {
        if (latestFailedCommand == NONE) {
            throw new NoSuchElementException("no command failed");
        }
        return latestFailedCommand;
    }

    public int undo() throws NoSuchElementException {
        if (history.count == 0) {
            throw new NoSuchElementException("there is nothing to undo");
        }
        history.takeBackInto(state);
        return history.count;
    }

    public int save() {
        snapshot.copyFrom(state);
        hasSnapshot = true;
        return state.messageCount;
    }

    public int restore() throws IllegalStateException {
        if (!hasSnapshot) {
            throw new IllegalStateException("there is no snapshot");
        }
        state.copyFrom(snapshot);
        history.count = 0;
        return state.messageCount;
    }

    private static final class Nest {
        final int[] inbox = new int[MOST_IN_INBOX];
        final int[] keys = new int[MOST_REMEMBERED];
        int distance = 0;
        int loss = 0;
        int deliveries = 0;
        int inboxSize = 0;
        int keyCount = 0;

        void open(int newDistance, int newLoss) {
            distance = newDistance;
            loss = newLoss;
            deliveries = 0;
            inboxSize = 0;
            keyCount = 0;
        }

        void copyFrom(Nest other) {
            System.arraycopy(other.inbox, 0, inbox, 0, MOST_IN_INBOX);
            System.arraycopy(other.keys, 0, keys, 0, MOST_REMEMBERED);
            distance = other.distance;
            loss = other.loss;
            deliveries = other.deliveries;
            inboxSize = other.inboxSize;
            keyCount = other.keyCount;
        }

        boolean hasRoom() {
            return inboxSize < MOST_IN_INBOX;
        }

        boolean knows(int key) {
            for (int i = 0; i < keyCount; i++) {
                if (keys[i] == key) {
                    return true;
                }
            }
            return false;
        }

        void accept(int message, int key) {
            if (!hasRoom()) {
                return;
            }
            inbox[inboxSize] = message;
            inboxSize++;
            deliveries++;
            learn(key);
        }

        // The keys stand in the order in which they came, so the first one is the oldest.
        private void learn(int key) {
            if (keyCount >= MOST_REMEMBERED) {
                System.arraycopy(keys, 1, keys, 0, MOST_REMEMBERED - 1);
                keyCount = MOST_REMEMBERED - 1;
            }
            keys[keyCount] = key;
            keyCount++;
        }

        int takeFirst() {
            if (inboxSize <= 0) {
                return NONE;
            }
            int first = inbox[0];
            System.arraycopy(inbox, 1, inbox, 0, MOST_IN_INBOX - 1);
            inboxSize--;
            return first;
        }
    }

    private static final class Crow {
        boolean flying = false;
        int message = 0;
        int landsAt = 0;

        void copyFrom(Crow other) {
            flying = other.flying;
            message = other.message;
            landsAt = other.landsAt;
        }
    }

    private static final class Message {
        int id = 0;
        int nest = 0;
        int key = 0;
        int attempts = 0;
        char status = WAITING;
        int wakesAt = 0;

        void write(int newId, int newNest, int newKey) {
            id = newId;
            nest = newNest;
            key = newKey;
            attempts = 0;
            status = WAITING;
            wakesAt = 0;
        }

        void copyFrom(Message other) {
            id = other.id;
            nest = other.nest;
            key = other.key;
            attempts = other.attempts;
            status = other.status;
            wakesAt = other.wakesAt;
        }
    }

    private static final class Totals {
        int published = 0;
        int delivered = 0;
        int read = 0;
        int duplicates = 0;
        int failed = 0;
        int cancelled = 0;
        int arrivals = 0;

        int existing() {
            return published - read - duplicates - failed - cancelled;
        }

        void copyFrom(Totals other) {
            published = other.published;
            delivered = other.delivered;
            read = other.read;
            duplicates = other.duplicates;
            failed = other.failed;
            cancelled = other.cancelled;
            arrivals = other.arrivals;
        }
    }

    /** All that undo and the snapshot cover. The rows are made once and hold the messages in the order of ids. */
    private static final class State {
        final Nest[] nests = new Nest[MOST_NESTS];
        final Crow[] crows = new Crow[MOST_CROWS];
        final Message[] messages = new Message[MOST_MESSAGES];
        final Totals totals = new Totals();
        int nestCount = 0;
        int crowCount = 0;
        int messageCount = 0;
        int time = 0;
        int wind = 0;

        State() {
            for (int i = 0; i < MOST_NESTS; i++) {
                nests[i] = new Nest();
            }
            for (int i = 0; i < MOST_CROWS; i++) {
                crows[i] = new Crow();
            }
            for (int i = 0; i < MOST_MESSAGES; i++) {
                messages[i] = new Message();
            }
        }

        void copyFrom(State other) {
            for (int i = 0; i < MOST_NESTS; i++) {
                nests[i].copyFrom(other.nests[i]);
            }
            for (int i = 0; i < MOST_CROWS; i++) {
                crows[i].copyFrom(other.crows[i]);
            }
            for (int i = 0; i < MOST_MESSAGES; i++) {
                messages[i].copyFrom(other.messages[i]);
            }
            totals.copyFrom(other.totals);
            nestCount = other.nestCount;
            crowCount = other.crowCount;
            messageCount = other.messageCount;
            time = other.time;
            wind = other.wind;
        }

        int perform(Command command) {
            switch (command.form) {
                case NEST:
                    return openNest(command.first, command.second);
                case CROW:
                    return hireCrow();
                case SEND:
                    return post(command.first, command.second);
                case READ:
                    return handOver(command.first);
                case DROP:
                    return withdraw(command.first);
                case WIND:
                    return turnWind(command.first);
                case FORGET:
                    return clearKeys(command.first);
                case WAIT_LONG:
                    return pass(command.first);
                default:
                    return pass(1);
            }
        }

        int openNest(int distance, int loss) {
            if (distance < 1 || distance > MOST_DISTANCE || loss < 0 || loss > MOST_LOSS) {
                return BAD_ARGUMENT;
            }
            if (nestCount >= MOST_NESTS) {
                return BAD_STATE;
            }
            int index = nestCount;
            nests[index].open(distance, loss);
            nestCount++;
            return index;
        }

        int hireCrow() {
            if (crowCount >= MOST_CROWS) {
                return BAD_STATE;
            }
            int index = crowCount;
            crows[index].flying = false;
            crowCount++;
            return index;
        }

        int post(int nest, int key) {
            if (nestAt(nest) == null) {
                return NO_INDEX;
            }
            if (key < 0 || key > MOST_KEY) {
                return BAD_ARGUMENT;
            }
            if (messageCount >= MOST_MESSAGES) {
                return BAD_STATE;
            }
            int id = totals.published;
            messages[messageCount].write(id, nest, key);
            messageCount++;
            totals.published++;
            return id;
        }

        int handOver(int nest) {
            Nest owner = nestAt(nest);
            if (owner == null) {
                return NO_INDEX;
            }
            if (owner.inboxSize == 0) {
                return NO_ELEMENT;
            }
            int id = owner.takeFirst();
            remove(id);
            totals.read++;
            return id;
        }

        int withdraw(int id) {
            Message message = messageWith(id);
            if (message == null) {
                return NO_ELEMENT;
            }
            if (message.status == FLYING || message.status == DELIVERED) {
                return BAD_STATE;
            }
            remove(id);
            totals.cancelled++;
            return messageCount;
        }

        int turnWind(int force) {
            if (force < 0 || force > MOST_FORCE) {
                return BAD_ARGUMENT;
            }
            int previous = wind;
            wind = force;
            return previous;
        }

        int clearKeys(int nest) {
            Nest owner = nestAt(nest);
            if (owner == null) {
                return NO_INDEX;
            }
            int known = owner.keyCount;
            owner.keyCount = 0;
            return known;
        }

        int pass(int minutes) {
            if (minutes < 1 || minutes > MOST_MINUTES) {
                return BAD_ARGUMENT;
            }
            int deliveredBefore = totals.delivered;
            for (int i = 0; i < minutes; i++) {
                time++;
                landCrows();
                wakeMessages();
                sendCrows();
            }
            return totals.delivered - deliveredBefore;
        }

        private void landCrows() {
            for (int i = 0; i < crowCount; i++) {
                Crow crow = crows[i];
                if (crow.flying && crow.landsAt == time) {
                    crow.flying = false;
                    arrive(crow.message);
                }
            }
        }

        // A nap that begins in this minute lasts 2 minutes or more, so it cannot end in it.
        private void wakeMessages() {
            for (int i = 0; i < messageCount; i++) {
                Message message = messages[i];
                if (message.status == NAPPING && message.wakesAt == time) {
                    message.status = WAITING;
                }
            }
        }

        private void sendCrows() {
            for (int i = 0; i < crowCount; i++) {
                Message message = crows[i].flying ? null : waitingAtRank(0);
                if (message != null) {
                    message.status = FLYING;
                    crows[i].flying = true;
                    crows[i].message = message.id;
                    crows[i].landsAt = time + flightLength(message);
                }
            }
        }

        private int flightLength(Message message) {
            Nest nest = nestAt(message.nest);
            int calmLength = nest == null ? 1 : nest.distance;
            return wind > CALM_FORCE ? calmLength + 1 : calmLength;
        }

        private void arrive(int id) {
            Message message = messageWith(id);
            if (message == null) {
                return;
            }
            Nest nest = nestAt(message.nest);
            if (nest == null) {
                return;
            }
            message.attempts++;
            totals.arrivals++;
            boolean lost = isLost(message, message.attempts);
            if (!lost && nest.knows(message.key)) {
                remove(id);
                totals.duplicates++;
            } else if (!lost && nest.hasRoom()) {
                nest.accept(id, message.key);
                message.status = DELIVERED;
                totals.delivered++;
            } else if (message.attempts >= MOST_ATTEMPTS) {
                remove(id);
                totals.failed++;
            } else {
                message.status = NAPPING;
                message.wakesAt = time + (int) shiftedNap(message.attempts);
            }
        }

        boolean isLost(Message message, int attempts) {
            Nest nest = nestAt(message.nest);
            return nest != null && (message.id + attempts + wind) % LOSS_CYCLE < nest.loss;
        }

        // The freed row goes behind the others, to be used again.
        private void remove(int id) {
            int row = rowOf(id);
            if (row == NONE) {
                return;
            }
            Message freed = messages[row];
            for (int i = row; i + 1 < messageCount; i++) {
                messages[i] = messages[i + 1];
            }
            messageCount--;
            messages[messageCount] = freed;
        }

        private int rowOf(int id) {
            for (int i = 0; i < messageCount; i++) {
                if (messages[i].id == id) {
                    return i;
                }
            }
            return NONE;
        }

        Nest nestAt(int index) {
            return index < 0 || index >= nestCount ? null : nests[index];
        }

        Crow crowAt(int index) {
            return index < 0 || index >= crowCount ? null : crows[index];
        }

        Message messageWith(int id) {
            int row = rowOf(id);
            return row == NONE ? null : messages[row];
        }

        Message waitingAtRank(int rank) {
            int passed = 0;
            for (int attempts = 0; attempts < MOST_ATTEMPTS; attempts++) {
                for (int i = 0; i < messageCount; i++) {
                    Message message = messages[i];
                    if (message.status == WAITING && message.attempts == attempts) {
                        if (passed == rank) {
                            return message;
                        }
                        passed++;
                    }
                }
            }
            return null;
        }

        int nestAtRank(int rank) {
            for (int i = 0; i < nestCount; i++) {
                int ahead = 0;
                for (int j = 0; j < nestCount; j++) {
                    if (ranksBefore(j, i)) {
                        ahead++;
                    }
                }
                if (ahead == rank) {
                    return i;
                }
            }
            return NONE;
        }

        private boolean ranksBefore(int one, int other) {
            if (nests[one].deliveries != nests[other].deliveries) {
                return nests[one].deliveries > nests[other].deliveries;
            }
            if (nests[one].distance != nests[other].distance) {
                return nests[one].distance < nests[other].distance;
            }
            return one < other;
        }

        int sumOfAttempts() {
            int sum = 0;
            for (int i = 0; i < messageCount; i++) {
                sum += messages[i].attempts;
            }
            return sum;
        }

        int messagesWithStatus(char status) {
            int number = 0;
            for (int i = 0; i < messageCount; i++) {
                if (messages[i].status == status) {
                    number++;
                }
            }
            return number;
        }

        int flyingCrows() {
            int number = 0;
            for (int i = 0; i < crowCount; i++) {
                if (crows[i].flying) {
                    number++;
                }
            }
            return number;
        }

        int messagesInInboxes() {
            int number = 0;
            for (int i = 0; i < nestCount; i++) {
                number += nests[i].inboxSize;
            }
            return number;
        }
    }

    /** The states before the latest changes, in a ring. */
    private static final class History {
        final State[] ring = new State[MOST_CHANGES];
        int next = 0;
        int count = 0;

        History() {
            for (int i = 0; i < MOST_CHANGES; i++) {
                ring[i] = new State();
            }
        }

        void remember(State earlier) {
            ring[next].copyFrom(earlier);
            next = (next + 1) % MOST_CHANGES;
            if (count < MOST_CHANGES) {
                count++;
            }
        }

        void takeBackInto(State current) {
            next = (next + MOST_CHANGES - 1) % MOST_CHANGES;
            count--;
            current.copyFrom(ring[next]);
        }
    }

    /** The forms of a command: # stands for a digit, % for a number. */
    private enum Form {
        NEST("nest # #"),
        CROW("crow"),
        SEND("send # %"),
        READ("read #"),
        DROP("drop %"),
        WIND("wind #"),
        FORGET("forget #"),
        WAIT("wait"),
        WAIT_LONG("wait %");

        final String pattern;

        Form(String pattern) {
            this.pattern = pattern;
        }
    }

    private static final class Command {
        Form form = Form.WAIT;
        int first = 0;
        int second = 0;
    }

    /** The script buffer, and the commands into which it was split last. */
    private static final class Script {
        final char[] text = new char[MOST_CHARACTERS];
        final Command[] commands = new Command[MOST_CHARACTERS];
        int length = 0;
        int commandCount = 0;
        int reached = 0;
        private int numbersRead = 0;
        private int firstNumber = 0;
        private int secondNumber = 0;
        private boolean matched = false;

        Script() {
            for (int i = 0; i < MOST_CHARACTERS; i++) {
                commands[i] = new Command();
            }
        }

        int append(char character) {
            if (length < MOST_CHARACTERS) {
                text[length] = character;
                length++;
            }
            return length;
        }

        /** Answers whether the text has the form; if not, it was reached to the error position. */
        boolean split() {
            int start = 0;
            for (int row = 0; row < MOST_CHARACTERS; row++) {
                if (!readCommand(commands[row], start)) {
                    return false;
                }
                commandCount = row + 1;
                if (reached >= length) {
                    return true;
                }
                if (text[reached] != ';') {
                    return false;
                }
                start = reached + 1;
            }
            return false;
        }

        // A character is wrong only if no form takes it, so the form that reaches farthest counts.
        private boolean readCommand(Command command, int start) {
            int end = NONE;
            reached = start;
            for (Form form : FORMS) {
                int stop = match(form.pattern, start);
                if (matched) {
                    command.form = form;
                    command.first = firstNumber;
                    command.second = secondNumber;
                    end = stop;
                }
                reached = Math.max(reached, stop);
            }
            return end == reached;
        }

        private int match(String pattern, int start) {
            int at = start;
            numbersRead = 0;
            matched = false;
            for (int i = 0; i < pattern.length(); i++) {
                int width = widthOf(pattern.charAt(i), at);
                if (width == 0) {
                    return at;
                }
                at += width;
            }
            matched = true;
            return at;
        }

        private int widthOf(char mark, int at) {
            if (mark == '#') {
                return readNumber(at, 1);
            }
            if (mark == '%') {
                return readNumber(at, MOST_NUMBER_DIGITS);
            }
            return at >= 0 && at < length && text[at] == mark ? 1 : 0;
        }

        private int readNumber(int start, int mostDigits) {
            int width = 0;
            int number = 0;
            for (int at = start; width < mostDigits && isDigitAt(at); at++) {
                number = number * 10 + text[at] - '0';
                width++;
            }
            if (numbersRead == 0) {
                firstNumber = number;
            } else {
                secondNumber = number;
            }
            numbersRead++;
            return width;
        }

        private boolean isDigitAt(int at) {
            return at >= 0 && at < length && text[at] >= '0' && text[at] <= '9';
        }
    }
}
