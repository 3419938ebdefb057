import java.lang.reflect.InvocationTargetException;
import java.lang.reflect.Method;
import java.lang.reflect.Modifier;
import java.nio.charset.StandardCharsets;
import java.util.ArrayList;
import java.util.Comparator;
import java.util.List;
import java.util.Random;

/** Calls with any arguments, the farthest ones too, in any state, far beyond the 512th: none throws, all end. */
public final class AnyCallTest {
    private static final int OBJECTS = 10;
    private static final int CALLS = 60000;
    private static final String[] TEXTS = {
        "price depth*ties+deep who; press 0; hour 60;", "scorches if heat>3 then turned year else -hour end;",
        "presses (((1+who)))*9999/year;", "presses 9999*9999*9999; scorches 0-9999*9999; price 9999*9999;",
        "person 0 coins 9999; crease 0 year 99 depth 9; tie 11 to 0; damp 9; pattern 11;",
        "price if not deep deep worth # turned - coins or 1/0 = 0 and who < 1 then 1 else 2 end;", "price ((((((((1",
        "crease 4 year", ""
    };
    private static final String[] TOKENS = {
        "presses", "scorches", "price", "person", "coins", "crease", "year", "depth", "tie", "to", "heat", "press",
        "pattern", "damp", "hour", "turned", "deep", "if", "then", "else", "end", "or", "and", "not", "who", "skin",
        "worth", "ties", "<=", ">", "=", "#", "+", "-", "*", "/", "(", ")", ";", "0", "9", "99999999999", "@"
    };

    private final Random chance;
    private final IronedOut x = new IronedOut();

    private AnyCallTest(long seed) {
        chance = new Random(seed);
    }

    public static void main(String[] args) throws Exception {
        List<Method> face = new ArrayList<>();
        for (Method method : IronedOut.class.getDeclaredMethods()) {
            if (Modifier.isPublic(method.getModifiers())) {
                face.add(method);
            }
        }
        // The order in which a machine tells them is its own.
        face.sort(Comparator.comparing(Method::toString));
        for (int seed = 0; seed < OBJECTS; seed++) {
            new AnyCallTest(seed).run(face);
        }
        Due.finish();
    }

    private void run(List<Method> face) throws Exception {
        for (int i = 0; i < CALLS; i++) {
            if (chance.nextInt(30) == 0) {
                Due.tape(x, text().getBytes(StandardCharsets.ISO_8859_1));
                x.text();
            }
            Method method = face.get(chance.nextInt(face.size()));
            Object[] arguments = new Object[method.getParameterCount()];
            for (int j = 0; j < arguments.length; j++) {
                arguments[j] = method.getParameterTypes()[j] == boolean.class ? (Object) chance.nextBoolean() : number();
            }
            try {
                method.invoke(x, arguments);
            } catch (InvocationTargetException thrown) {
                Due.due(method + " of " + List.of(arguments) + ": " + thrown.getCause(), 1, 0);
                return;
            }
        }
        Due.due("one more, and it answers", x.about(0) >= 0, true);
    }

    private Integer number() {
        switch (chance.nextInt(12)) {
            case 0: return chance.nextInt();
            case 1: return Integer.MAX_VALUE - chance.nextInt(3);
            case 2: return Integer.MIN_VALUE + chance.nextInt(3);
            case 3: case 4: return chance.nextInt(10200) - 100;
            case 5: case 6: return chance.nextInt(130) - 10;
            default: return chance.nextInt(14) - 1;
        }
    }

    private String text() {
        if (chance.nextBoolean()) {
            return TEXTS[chance.nextInt(TEXTS.length)];
        }
        StringBuilder text = new StringBuilder();
        while (text.length() < 280 && chance.nextInt(50) > 0) {
            text.append(TOKENS[chance.nextInt(TOKENS.length)]).append(' ');
        }
        return text.toString();
    }
}
