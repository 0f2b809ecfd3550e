import java.lang.management.ManagementFactory;
import java.lang.reflect.InvocationTargetException;
import java.lang.reflect.Method;
import java.lang.reflect.Modifier;
import java.util.ArrayList;
import java.util.Comparator;
import java.util.List;
import java.util.NoSuchElementException;
import java.util.Random;

/** Any call with any arguments in any state: nothing is thrown but what the document names, and little is made. */
public final class AnyCallTest {
    private static final String[] TEXTS = {
        "n=g", "n=-k", "k999;a=g-k/0:9999:1999/9999:0;n=g-a",
        "a=g/0:0/1:1/2:2/3:3/4:4/5:5;b=a+a+a/0:1:1999/1:0:1999/2:7:0;c=b-a/0:5:5/3:1;n=c-b+a-g",
        "a=g/0:103:83/1515:26:1675/2874:600:239/4291:609:1710;b=g/0:241:1425/1552:35:1927/3012:27:1235/4327:78:1094"
            + "/5819:120:222;c=b/0:6:1371/210:21:1723/437:43:1500/669:102:150/871:85:1583/1057:129:625;d=b-a/0:47:316"
            + "/108:40:714/210:7:1317/293:82:772;e=c+c+d/0:13:1469/108:15:728/227:3:339/329:28:1443/444:93:1003;"
            + "n=g-e+c-d"};
    private static final long[] ODD = {
        0, 1, -1, 2, -2, 3, 5, 6, 7, 11, 12, 13, 400, 401, 998, 999, 1000, 1001, 1999, 2000, 9998, 9999, 10000, 10001,
        Integer.MAX_VALUE, Integer.MIN_VALUE, Long.MAX_VALUE, Long.MIN_VALUE, -9000000000000000000L, 1000000000000L};

    public static void main(String[] args) throws IllegalAccessException {
        anyArguments();
        room();
        Check.finish("every call is answered");
    }

    private static void anyArguments() throws IllegalAccessException {
        List<Method> calls = new ArrayList<>();
        for (Method m : PayPromise.class.getDeclaredMethods()) {
            if (Modifier.isPublic(m.getModifiers())) {
                calls.add(m);
            }
        }
        calls.sort(Comparator.comparing(Method::getName));
        Random random = new Random(47);
        for (int run = 0; run < 60; run++) {
            PayPromise x = run % 6 < TEXTS.length ? Check.desk(TEXTS[run % 6]) : new PayPromise();
            for (int i = 0; i < 500; i++) {
                anyCall(x, calls.get(random.nextInt(calls.size())), random);
            }
        }
    }

    private static void anyCall(PayPromise x, Method call, Random random) throws IllegalAccessException {
        Object[] given = new Object[call.getParameterCount()];
        for (int i = 0; i < given.length; i++) {
            long n = random.nextInt(3) == 0 ? random.nextInt(10) - 2 : ODD[random.nextInt(ODD.length)];
            if (call.getParameterTypes()[i] == long.class) {
                given[i] = n;
            } else {
                given[i] = (int) n;
            }
        }
        try {
            call.invoke(x, given);
        } catch (InvocationTargetException e) {
            boolean due = call.getName().equals("account") && e.getCause() instanceof NoSuchElementException;
            if (!due) {
                e.getCause().printStackTrace();
                System.exit(1);
            }
        }
    }

    /** What 512 calls make, the dearest among them, stays far below what a run has room for. */
    private static void room() {
        com.sun.management.ThreadMXBean counter = (com.sun.management.ThreadMXBean) ManagementFactory.getThreadMXBean();
        long id = Thread.currentThread().getId();
        long before = counter.getThreadAllocatedBytes(id);
        PayPromise x = new PayPromise();
        long made = counter.getThreadAllocatedBytes(id) - before;
        Check.tell(x, TEXTS[4]);
        x.desk();
        before = counter.getThreadAllocatedBytes(id);
        for (int i = 0; i < 500; i++) {
            x.benefit(i % 1000);
            x.bend(0, 1, 2, i);
            x.rule(4);
            x.crossings(-1, i % 5, 0);
            x.spell(2, -1);
            x.inKind(1000000000000L, i);
        }
        long used = counter.getThreadAllocatedBytes(id) - before;
        if (made > 40_000 || used > 200_000) {
            System.out.println("an object takes " + made + " bytes, 3000 calls " + used);
            System.exit(1);
        }
    }
}
