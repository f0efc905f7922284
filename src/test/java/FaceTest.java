import java.lang.reflect.Constructor;
import java.lang.reflect.Field;
import java.lang.reflect.Method;
import java.lang.reflect.Modifier;
import java.util.TreeSet;

/** The public face: its constants, its calls with what they throw, and nothing besides. */
final class FaceTest {
    private static final String[] CALLS = {
        "void layHex(int,int,int)IAS", "int place(int,int)IS", "int deal(int,int)IAS", "int roll(int,int)AS",
        "int discard(int,int)IAS", "int rob(int,int,int)IAS", "int road(int)IS", "int house(int)IS",
        "int city(int)IS", "int buy()S", "int knight(int,int,int)IAS", "int roads(int,int)IS",
        "int plenty(int,int)AS", "int monopoly(int)AS", "int swap(int,int)AS", "void offer(int,int)AS",
        "void counter(int,int,int)IAS", "int accept(int)IS", "int agree(int)IS", "int endTurn()S",
        "int phase()", "int turn()", "int hand(int,int)IA", "int handByMoves(int,int)IA", "int due(int)I",
        "int points(int)I", "int trail(int)I", "int trailBySets(int)I", "int holder(boolean)", "int knights(int)I",
        "int cards(int,int)IA", "int buildingAt(int)I", "int roadAt(int)I", "int robber()", "int rate(int,int)IA",
        "int wouldGet(int,int,int)IA",
    };

    private FaceTest() {
    }

    public static void main(String[] args) {
        constants();
        calls();
        nothingElse();
        Check.end();
    }

    private static void constants() {
        int[] got = {
            Hexstead.NONE, Hexstead.BRICK, Hexstead.WOOD, Hexstead.WOOL, Hexstead.GRAIN, Hexstead.ORE,
            Hexstead.DESERT, Hexstead.KNIGHT, Hexstead.ROADS, Hexstead.PLENTY, Hexstead.MONOPOLY, Hexstead.POINT,
            Hexstead.PLACE, Hexstead.ROLL, Hexstead.ACT, Hexstead.DISCARD, Hexstead.ROB, Hexstead.OVER,
        };
        int[] due = {-1, 0, 1, 2, 3, 4, 5, 0, 1, 2, 3, 4, 0, 1, 2, 3, 4, 5};
        for (int i = 0; i < due.length; i++) {
            Check.same("constant " + i, got[i], due[i]);
        }
    }

    private static void calls() {
        TreeSet<String> due = new TreeSet<>();
        for (String call : CALLS) {
            due.add(call);
        }
        TreeSet<String> got = new TreeSet<>();
        for (Method method : Hexstead.class.getDeclaredMethods()) {
            if (!Modifier.isPrivate(method.getModifiers())) {
                got.add(told(method));
            }
        }
        Check.same("the calls", got.toString(), due.toString());
    }

    private static String told(Method method) {
        StringBuilder text = new StringBuilder(method.getReturnType().getName());
        text.append(' ').append(method.getName()).append('(');
        for (Class<?> type : method.getParameterTypes()) {
            text.append(text.charAt(text.length() - 1) == '(' ? "" : ",").append(type.getName());
        }
        text.append(')');
        for (Class<?> type : method.getExceptionTypes()) {
            text.append(type == Check.INDEX ? 'I' : type == Check.ARGUMENT ? 'A' : type == Check.STATE ? 'S' : '?');
        }
        return text.toString();
    }

    private static void nothingElse() {
        Check.same("final", Modifier.isFinal(Hexstead.class.getModifiers()) ? 1 : 0, 1);
        Constructor<?>[] constructors = Hexstead.class.getDeclaredConstructors();
        Check.same("constructors", constructors.length, 1);
        Check.same("a public one", Modifier.isPublic(constructors[0].getModifiers()) ? 1 : 0, 1);
        int open = 0;
        for (Field field : Hexstead.class.getDeclaredFields()) {
            open += Modifier.isPrivate(field.getModifiers()) ? 0 : 1;
        }
        Check.same("fields that are not private", open, 18);
        for (Class<?> inside : Hexstead.class.getDeclaredClasses()) {
            Check.same(inside + " is static", Modifier.isStatic(inside.getModifiers()) ? 1 : 0, 1);
            Check.same(inside + " is public", Modifier.isPublic(inside.getModifiers()) ? 1 : 0, 0);
        }
    }
}
