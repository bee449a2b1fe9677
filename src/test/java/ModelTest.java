import java.lang.reflect.Method;
import java.util.ArrayList;
import java.util.Comparator;
import java.util.List;

/** Long runs of calls, right and wrong ones, on the class and on the model: every answer must be the same. */
public final class ModelTest {
    private static final int RUNS = 400;
    private static final int CALLS = 512;
    private static long seed = 20261118L;

    private static int below(int n) {
        seed = seed * 6364136223846793005L + 1442695040888963407L;
        return (int) ((seed >>> 33) % n);
    }

    public static void main(String[] args) throws Exception {
        List<Method> open = new ArrayList<>();
        for (Method m : CourtHouse.class.getDeclaredMethods()) {
            if (java.lang.reflect.Modifier.isPublic(m.getModifiers())) {
                open.add(m);
            }
        }
        open.sort(Comparator.comparing(Method::getName));
        Method[] twins = new Method[open.size()];
        for (int i = 0; i < twins.length; i++) {
            twins[i] = Model.class.getDeclaredMethod(open.get(i).getName(), open.get(i).getParameterTypes());
        }
        Due d = new Due();
        for (int run = 0; run < RUNS; run++) {
            CourtHouse x = new CourtHouse();
            Model y = new Model();
            int wild = below(4) == 0 ? 12 : 60;
            StringBuilder said = new StringBuilder();
            for (int call = 0; call < CALLS; call++) {
                int pick = pick(open, call, run);
                Method m = open.get(pick);
                Object[] given = arguments(m, wild, y);
                long got = (Long) m.invoke(x, given);
                long want = (Long) twins[pick].invoke(y, given);
                said.append(m.getName()).append(java.util.Arrays.toString(given)).append(got).append('\n');
                d.due("run " + run + " call " + call + " " + m.getName() + java.util.Arrays.toString(given), got, want);
                if (got != want) {
                    System.out.println(said);
                    d.end("ModelTest");
                }
            }
        }
        d.end("ModelTest");
    }

    /** Houses are filled first in most runs; what the model is slow at is asked less. */
    private static int pick(List<Method> open, int call, int run) {
        String[] first = {"newCase", "witness", "needs", "needs", "apart"};
        while (true) {
            int i = below(open.size());
            String name = open.get(i).getName();
            if (run % 3 != 0 && call < 60) {
                String want = first[below(first.length)];
                for (int j = 0; j < open.size(); j++) {
                    if (open.get(j).getName().equals(want)) {
                        return j;
                    }
                }
            }
            boolean slow = name.equals("room") || name.equals("best") || name.equals("plan");
            if (!slow || below(3) == 0) {
                return i;
            }
        }
    }

    private static Object[] arguments(Method m, int wild, Model y) {
        Object[] given = new Object[m.getParameterCount()];
        int[] most = most(m.getName(), y);
        for (int i = 0; i < given.length; i++) {
            int top = Math.max(1, most[i]);
            int v = below(top + 1);
            if (below(wild) == 0) {
                int[] edge = {-1, -2, top + 1, top + 2, 48, 49, 100, 101, 200, 201, 1024, -1000000};
                v = below(3) == 0 ? Due.WILD[below(Due.WILD.length)] : edge[below(edge.length)];
            }
            given[i] = v;
        }
        if (m.getName().equals("fate") && below(3) == 0) {
            given[1] = below(2) - 1;
        }
        if (m.getName().equals("needs") && below(2) == 0 && y.people.size() > 0) {
            given[1] = 1 << below(y.people.size()) | 1 << below(y.people.size());
        }
        return given;
    }

    private static int[] most(String name, Model y) {
        int c = y.cases.size() - 1;
        int w = y.people.size() - 1;
        switch (name) {
            case "newCase": return new int[] {2, 8, 100};
            case "witness": return new int[] {4, 12};
            case "isOf": return new int[] {w, 4};
            case "needs": return new int[] {c, (1 << (w + 1)) - 1};
            case "fold": return new int[] {c, 100};
            case "told": return new int[] {c, 5};
            case "inList": return new int[] {2, 6};
            case "rule": return new int[] {4, below(2) == 0 ? 20 : 200};
            case "weight": return new int[] {c, below(2) == 0 ? 48 : 16};
            case "cost": return new int[] {c, 48};
            case "best": case "plan": return new int[] {c};
            case "call": return new int[] {w, c, 48};
            case "called": case "waited": return new int[] {w, c};
            case "fate": return new int[] {c, 20};
            case "begins": return new int[] {c, 2};
            case "idle": return new int[] {2, 1};
            case "waits": return new int[] {};
            case "pay": case "room": case "read": return new int[] {w};
            case "apart": return new int[] {w, w, 1};
            case "move": return new int[] {c, 2};
            case "notice": return new int[] {below(2) == 0 ? 60 : y.notices.size(), 2};
            case "sheet": return new int[] {1, 12};
            case "mark": return new int[] {1, 11, 110};
            case "copy": return new int[] {1, 8, 1, 8, 5};
            case "take": return new int[] {1};
            case "count": return new int[] {6};
            default: throw new IllegalStateException(name);
        }
    }
}
