import java.lang.reflect.Constructor;
import java.lang.reflect.Field;
import java.lang.reflect.Method;
import java.lang.reflect.Modifier;
import java.util.Arrays;
import java.util.TreeSet;

/** The public face, and promise 1. */
public final class FaceTest {
    private static final String[] FACE = {
        "int feed(int)", "int end(int)", "int text()", "int fault()", "int rule(int)", "int unit(int,int)",
        "int sign(int)", "int alter(int,int,int)", "int set(int,int)", "int add(int)", "int cut(int)",
        "int send(int)", "int hours(int)", "int runs(int,int)", "int ahead(int,int)", "int when()",
        "int kind(int,int,int)", "int begin(int,int,int)", "int need(int,int)", "int swap(int,int)",
        "int bridge(int,int)", "long luck(int,int,int)", "long mean(int,int,int)", "int see(int,int,int)",
        "int forget(int)", "int kinds(int)", "int leaks(int)", "int ask(int,int)", "int drift(int,int,int)",
        "int keep(int)", "int back(int)", "int sheet(int,int,int)", "int lay(int,int,int)",
        "int read(int,int,int,int)", "int torn()", "int count(int)"};

    public static void main(String[] args) {
        face();
        newObject();
        Due.finish();
    }

    private static void face() {
        TreeSet<String> methods = new TreeSet<>();
        TreeSet<String> hidden = new TreeSet<>();
        for (Method m : CellsInRow.class.getDeclaredMethods()) {
            String parameters = Arrays.toString(m.getParameterTypes()).replaceAll("[\\[\\] ]", "");
            String told = m.getReturnType() + " " + m.getName() + "(" + parameters + ")";
            if (Modifier.isPublic(m.getModifiers())) {
                methods.add(told);
            } else {
                Due.that(told + " is private", Modifier.isPrivate(m.getModifiers()));
                hidden.add(m.getName());
            }
        }
        Due.that("methods " + methods, methods.equals(new TreeSet<>(Arrays.asList(FACE))));
        for (String told : FACE) {
            String name = told.substring(told.indexOf(' ') + 1, told.indexOf('('));
            Due.that("no private method is called " + name, !hidden.contains(name));
        }
        TreeSet<String> constants = new TreeSet<>();
        for (Field f : CellsInRow.class.getDeclaredFields()) {
            if (!Modifier.isPrivate(f.getModifiers())) {
                constants.add(f.toString());
            }
        }
        Due.is("fields that are not private: " + constants, constants.size(), 4);
        Constructor<?>[] made = CellsInRow.class.getDeclaredConstructors();
        Due.is("constructors", made.length, 1);
        Due.that("the constructor is public", Modifier.isPublic(made[0].getModifiers()));
        Due.that("the class is public and final", Modifier.isPublic(CellsInRow.class.getModifiers())
            && Modifier.isFinal(CellsInRow.class.getModifiers()));
        Due.is("BAD", CellsInRow.BAD, -1);
        Due.is("STATE", CellsInRow.STATE, -2);
        Due.is("FULL", CellsInRow.FULL, -3);
        Due.is("NONE", CellsInRow.NONE, -4);
    }

    private static void newObject() {
        CellsInRow x = new CellsInRow();
        for (int what = 0; what <= 7; what++) {
            Due.is("1 rule(" + what + ")", x.rule(what), 0);
        }
        Due.is("1 unit", x.unit(0, 0), -1);
        Due.is("1 sign", x.sign(0), -1);
        Due.is("1 fault", x.fault(), 0);
        Due.is("1 torn", x.torn(), 0);
        int[] counts = {0, 0, 0, -4, 0, 0};
        for (int what = 0; what < counts.length; what++) {
            Due.is("1 count(" + what + ")", x.count(what), counts[what]);
        }
        for (int k = 0; k < 4; k++) {
            Due.is("1 lay on nothing", x.lay(k, 0, 0), -11);
        }
        Due.is("1 when", x.when(), -4);
        Due.is("1 hours", x.hours(100), 0);
        Due.is("1 hour", x.rule(2), 100);
        Due.is("1 runs", x.runs(200, 0), 0);
        Due.is("1 luck", x.luck(3, 8, 0), 1);
        Due.is("1 luck under", x.luck(3, 8, 1), 1);
        Due.is("1 mean", x.mean(3, 8, 0), 0);
        Due.is("1 mean under", x.mean(3, 8, 1), 1);
        Due.is("1 swap", x.swap(9, 0), -4);
        Due.is("1 bridge", x.bridge(9, 0), -4);
    }
}
