import java.lang.reflect.Constructor;
import java.lang.reflect.Field;
import java.lang.reflect.Method;
import java.lang.reflect.Modifier;
import java.util.Arrays;
import java.util.TreeSet;

/** The public face: every constant, constructor and method of the document, and no other member that is not private. */
public final class FaceTest {
    private static final String[] CONSTANTS = {
        "PUT 0", "ADD 1", "COPY 2", "SUM 3", "SWAP 4", "MUL 5", "LAG 0", "QUORUM 1", "NOT_FOUND -1", "BAD_VALUE -2", "FULL -3",
        "NOT_ALLOWED -4", "SYNTAX_ERROR -11", "RANGE_ERROR -12", "NAME_ERROR -13", "DUPLICATE_ERROR -14", "COUNT_ERROR -15"};
    private static final String[] METHODS = {
        "int feed(int, int, int, int, int)", "int load(int)", "int errorPosition()", "int count(int)", "int undoCount()",
        "int memberNamed(int)", "int memberNumber(int, int)", "int getSetting(int)", "int cellOf(int, int)", "int commandCount(int)",
        "int command(int, int, int)", "int faultNumber(int, int)", "int checksum(int, int)", "int rootAt(int, int)",
        "int firstWrongTurn(int, int)", "int halvedTurn(int, int)", "boolean isHalvingRight(int, int)", "int firstWrongCell(int, int)",
        "int wrongCells(int, int)", "int comparisons(int, int)", "int votes(int, int)", "int winner(int)", "boolean isWrong(int)",
        "int wrongMembers()", "int donorFor(int)", "int whyNot(int)", "int reached(boolean)", "int mayRun(int)", "double meanTurns()",
        "int truth(int, int)", "int trueMembers()", "int foreseen(int, int)", "int lastWrite(int, int)", "int give(int, int, int, int)",
        "int seal()", "int run(int, int)", "int tick()", "int fault(int, int, int, int)", "int heal(int)", "int healAll()", "int join(int)",
        "int leave(int)", "int setSetting(int, int)", "int undo()", "int write(int)", "int outputAt(int)"};

    public static void main(String[] args) throws IllegalAccessException {
        Check check = new Check();
        Class<?> face = LockstepRoom.class;
        check.due("modifiers", face.getModifiers(), Modifier.PUBLIC | Modifier.FINAL);
        check.due("constants", constantsOf(face), new TreeSet<>(Arrays.asList(CONSTANTS)).toString());
        TreeSet<String> methods = new TreeSet<>();
        TreeSet<String> names = new TreeSet<>();
        for (Method m : face.getDeclaredMethods()) {
            if (!Modifier.isPrivate(m.getModifiers())) {
                methods.add(signature(m));
                names.add(m.getName());
            }
        }
        check.due("methods", methods.toString(), new TreeSet<>(Arrays.asList(METHODS)).toString());
        for (Method m : face.getDeclaredMethods()) {
            check.due("the private " + m.getName() + " has a public name", Modifier.isPrivate(m.getModifiers()) && names.contains(m.getName()), false);
        }
        check.due("constructors", face.getDeclaredConstructors().length, 1);
        for (Constructor<?> c : face.getDeclaredConstructors()) {
            check.due("constructor", c.toString(), "public LockstepRoom()");
        }
        check.finish();
    }

    private static String constantsOf(Class<?> face) throws IllegalAccessException {
        TreeSet<String> constants = new TreeSet<>();
        for (Field f : face.getDeclaredFields()) {
            if (!Modifier.isPrivate(f.getModifiers())) {
                boolean isConstant = f.getModifiers() == (Modifier.PUBLIC | Modifier.STATIC | Modifier.FINAL) && f.getType() == int.class;
                constants.add(f.getName() + " " + (isConstant ? f.getInt(null) : "is no constant"));
            }
        }
        return constants.toString();
    }

    private static String signature(Method m) {
        String parameters = Arrays.toString(m.getParameterTypes());
        String kind = m.getModifiers() == Modifier.PUBLIC ? "" : Modifier.toString(m.getModifiers()) + " ";
        return kind + m.getReturnType() + " " + m.getName() + "(" + parameters.substring(1, parameters.length() - 1) + ")";
    }
}
