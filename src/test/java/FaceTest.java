import java.lang.reflect.Constructor;
import java.lang.reflect.Field;
import java.lang.reflect.Member;
import java.lang.reflect.Method;
import java.lang.reflect.Modifier;
import java.util.ArrayList;
import java.util.Collections;
import java.util.List;

/** The section "The public face": the class has each line of it, and nothing else that is not private. */
public final class FaceTest {
    /** The lines as they stand in the document, without "public" and the semicolon. */
    private static final String[] FACE = {
        "CrowMail()",
        "int addNest(int distance, int loss) throws IllegalArgumentException, IllegalStateException",
        "int addCrow() throws IllegalStateException",
        "int publish(int nest, int key)"
            + " throws IndexOutOfBoundsException, IllegalArgumentException, IllegalStateException",
        "int read(int nest) throws IndexOutOfBoundsException, NoSuchElementException",
        "int cancel(int message) throws NoSuchElementException, IllegalStateException",
        "int setWind(int force) throws IllegalArgumentException",
        "int forget(int nest) throws IndexOutOfBoundsException",
        "int advance(int minutes) throws IllegalArgumentException",
        "int nestCount()",
        "int distance(int nest) throws IndexOutOfBoundsException",
        "int loss(int nest) throws IndexOutOfBoundsException",
        "int inboxSize(int nest) throws IndexOutOfBoundsException",
        "int inboxMessage(int nest, int position) throws IndexOutOfBoundsException, NoSuchElementException",
        "boolean remembers(int nest, int key) throws IndexOutOfBoundsException",
        "int rememberedCount(int nest) throws IndexOutOfBoundsException",
        "int nestByDeliveries(int rank) throws NoSuchElementException",
        "int crowCount()",
        "boolean isFlying(int crow) throws IndexOutOfBoundsException",
        "int carriedMessage(int crow) throws IndexOutOfBoundsException, NoSuchElementException",
        "int flightMinutes(int crow) throws IndexOutOfBoundsException",
        "int messageCount()",
        "int messageAt(int position) throws NoSuchElementException",
        "int nestOf(int message) throws NoSuchElementException",
        "int keyOf(int message) throws NoSuchElementException",
        "int attempts(int message) throws NoSuchElementException",
        "char status(int message) throws NoSuchElementException",
        "int napMinutes(int message) throws NoSuchElementException, IllegalStateException",
        "int waitingMessage(int rank) throws NoSuchElementException",
        "boolean wouldBeLost(int message) throws NoSuchElementException, IllegalStateException",
        "long napLength(int attempts) throws IllegalArgumentException",
        "long napLengthByDoubling(int attempts) throws IllegalArgumentException",
        "int minutesUntilDelivered(int message) throws NoSuchElementException, IllegalStateException",
        "int time()",
        "int wind()",
        "int publishedTotal()",
        "int deliveredTotal()",
        "int readTotal()",
        "int duplicateTotal()",
        "int failedTotal()",
        "int arrivalTotal()",
        "int messageCountByTotals()",
        "double meanAttempts() throws ArithmeticException",
        "long meanAttemptsBits() throws ArithmeticException",
        "float deliveryRate() throws ArithmeticException",
        "int deliveryRateBits() throws ArithmeticException",
        "boolean isConsistent()",
        "int renderMessage(int message) throws NoSuchElementException",
        "int renderCrows()",
        "char outputAt(int index) throws IndexOutOfBoundsException",
        "int type(char character) throws IllegalArgumentException, IllegalStateException",
        "int runScript() throws IllegalArgumentException, IllegalStateException",
        "int errorPosition() throws NoSuchElementException",
        "int failedCommand() throws NoSuchElementException",
        "int undo() throws NoSuchElementException",
        "int save()",
        "int restore() throws IllegalStateException"};
    private static final Check CHECK = new Check("FaceTest");

    public static void main(String[] args) {
        CHECK.each(FaceTest::classOfTheFace, FaceTest::everyLine, FaceTest::nothingElse);
        CHECK.finish();
    }

    private static void classOfTheFace() {
        CHECK.sentence("The public face: public final class CrowMail");
        CHECK.same("modifiers", Modifier.toString(CrowMail.class.getModifiers()), "public final");
        CHECK.same("name, without a package", CrowMail.class.getName(), "CrowMail");
        CHECK.same("superclass", CrowMail.class.getSuperclass(), Object.class);
        CHECK.same("interfaces", CrowMail.class.getInterfaces().length, 0);
    }

    private static void everyLine() {
        CHECK.sentence("The public face: its lines");
        CHECK.same("promises 1 to 57", FACE.length, 57);
        List<String> own = publicLines();
        for (int i = 0; i < FACE.length; i++) {
            String line = FACE[i].replaceAll("(int|char) [a-z]+([,)])", "$1$2");
            CHECK.yes((i + 1) + ": " + line, own.remove(line));
        }
        CHECK.same("public members beyond the face", own, Collections.emptyList());
    }

    private static List<String> publicLines() {
        List<String> lines = new ArrayList<>();
        for (Constructor<?> constructor : CrowMail.class.getConstructors()) {
            lines.add(line("CrowMail", constructor.getParameterTypes(), constructor.getExceptionTypes()));
        }
        for (Method method : CrowMail.class.getDeclaredMethods()) {
            if (Modifier.isPublic(method.getModifiers())) {
                String name = Modifier.isStatic(method.getModifiers()) ? "static " : "";
                name += method.getReturnType().getSimpleName() + " " + method.getName();
                lines.add(line(name, method.getParameterTypes(), method.getExceptionTypes()));
            }
        }
        return lines;
    }

    private static String line(String name, Class<?>[] parameters, Class<?>[] exceptions) {
        return name + "(" + names(parameters) + ")" + (exceptions.length == 0 ? "" : " throws " + names(exceptions));
    }

    private static String names(Class<?>[] types) {
        List<String> names = new ArrayList<>();
        for (Class<?> type : types) {
            names.add(type.getSimpleName());
        }
        return String.join(", ", names);
    }

    /** The first rule of LANGUAGE.md. */
    private static void nothingElse() {
        CHECK.sentence("The public face: no other member that is not private");
        for (Field field : CrowMail.class.getDeclaredFields()) {
            onlyPrivate(field, field.isSynthetic());
        }
        for (Method method : CrowMail.class.getDeclaredMethods()) {
            onlyPrivate(method, method.isSynthetic() || Modifier.isPublic(method.getModifiers()));
        }
        for (Constructor<?> constructor : CrowMail.class.getDeclaredConstructors()) {
            onlyPrivate(constructor, constructor.isSynthetic() || Modifier.isPublic(constructor.getModifiers()));
        }
        for (Class<?> inside : CrowMail.class.getDeclaredClasses()) {
            boolean shown = Modifier.isPublic(inside.getModifiers()) || Modifier.isProtected(inside.getModifiers());
            CHECK.no("class " + inside.getSimpleName() + " is shown", shown);
            CHECK.yes("class " + inside.getSimpleName() + " is static", Modifier.isStatic(inside.getModifiers()));
        }
    }

    private static void onlyPrivate(Member member, boolean free) {
        CHECK.yes(member.getName() + " is private", free || Modifier.isPrivate(member.getModifiers()));
    }
}
