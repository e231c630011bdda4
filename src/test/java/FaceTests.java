import java.io.IOException;
import java.lang.reflect.Constructor;
import java.lang.reflect.Field;
import java.lang.reflect.Method;
import java.lang.reflect.Modifier;
import java.nio.file.Files;
import java.nio.file.Path;
import java.util.Set;
import java.util.TreeSet;

/**
 * The public face of the class, and those rules of LANGUAGE.md that its members and its words show.
 * The argument is the path of the class's source.
 */
public final class FaceTests {
    private static final Answers ANSWERS = new Answers();

    private static final String[] FACE = {
        "appendCharacter(int)", "clearText()", "loadComponent()", "setInitialValue(int,int)", "removeMethod(int)",
        "methodCount()", "complexity(int)", "runText()", "setMaximumLength(int)", "explore(int)", "reset()", "undo()",
        "openPairs()", "skippedPairs()", "redundantPairs()", "droppedPairs()", "poolSize()", "sequenceLength(int)",
        "sequenceCall(int,int)", "finalValue(int,int)", "enabledMethods(int)", "findState(int,int,int)",
        "failureCount()", "failureLength(int)", "failureCall(int,int)", "failureVerdict(int)", "minimizedLength(int)",
        "minimizedCall(int,int)",
    };

    private static final String[] FORBIDDEN_WORDS = {
        "throw", "throws", "try", "catch", "synchronized", "assert", "volatile", "transient", "native", "Object",
        "Exception", "Random", "System.out", "->", "::", "Exact(", "double", "float", "@",
    };

    public static void main(String[] arguments) throws IOException {
        constants();
        methods();
        classesInside();
        words(Files.readString(Path.of(arguments[0])));
        ANSWERS.finish("FaceTests");
    }

    private static void constants() {
        ANSWERS.due("INVALID_ARGUMENT", -1, ContractTester.INVALID_ARGUMENT);
        ANSWERS.due("INVALID_STATE", -2, ContractTester.INVALID_STATE);
        ANSWERS.due("LIMIT_REACHED", -3, ContractTester.LIMIT_REACHED);
        ANSWERS.due("NONE", -1000, ContractTester.NONE);
        int visible = 0;
        for (Field field : ContractTester.class.getDeclaredFields()) {
            if (!Modifier.isPrivate(field.getModifiers())) {
                visible++;
                ANSWERS.due("modifiers of " + field.getName(),
                        Modifier.PUBLIC | Modifier.STATIC | Modifier.FINAL, field.getModifiers());
            }
        }
        ANSWERS.due("number of visible fields", 4, visible);
    }

    private static void methods() {
        due("the class is public and final", ContractTester.class.getModifiers() == (Modifier.PUBLIC | Modifier.FINAL));
        Constructor<?>[] constructors = ContractTester.class.getDeclaredConstructors();
        ANSWERS.due("number of constructors", 1, constructors.length);
        ANSWERS.due("modifiers of the constructor", Modifier.PUBLIC, constructors[0].getModifiers());
        ANSWERS.due("parameters of the constructor", 0, constructors[0].getParameterCount());

        Set<String> wanted = new TreeSet<>(Set.of(FACE));
        Set<String> names = new TreeSet<>();
        for (String signature : FACE) {
            names.add(signature.substring(0, signature.indexOf('(')));
        }
        for (Method method : ContractTester.class.getDeclaredMethods()) {
            if (Modifier.isPrivate(method.getModifiers())) {
                due("a private method has a name of its own: " + method, !names.contains(method.getName()));
            } else {
                due("a method of the face: " + method, wanted.remove(signatureOf(method)));
                due("answers an int: " + method, method.getReturnType() == int.class);
                ANSWERS.due("modifiers of " + method, Modifier.PUBLIC, method.getModifiers());
            }
        }
        due("no method is missing of " + wanted, wanted.isEmpty());
    }

    private static void classesInside() {
        Class<?>[] classes = ContractTester.class.getDeclaredClasses();
        due("at most some twelve classes", classes.length <= 12);
        for (Class<?> inside : classes) {
            int modifiers = inside.getModifiers();
            due("private or package-visible: " + inside, !Modifier.isPublic(modifiers) && !Modifier.isProtected(modifiers));
            due("static: " + inside, Modifier.isStatic(modifiers));
            for (Field field : inside.getDeclaredFields()) {
                due("a static field is final: " + field,
                        !Modifier.isStatic(field.getModifiers()) || Modifier.isFinal(field.getModifiers()));
            }
            for (Method method : inside.getDeclaredMethods()) {
                due("at most seven parameters: " + method, method.getParameterCount() <= 7);
            }
        }
    }

    private static void words(String source) {
        String code = source.replaceAll("(?s)/\\*.*?\\*/", "").replaceAll("//[^\n]*", "");
        for (String word : FORBIDDEN_WORDS) {
            String edge = Character.isLetter(word.charAt(0)) ? "\\b" : "";
            String end = Character.isLetter(word.charAt(word.length() - 1)) ? "\\b" : "";
            boolean found = java.util.regex.Pattern.compile(edge + java.util.regex.Pattern.quote(word) + end)
                    .matcher(code).find();
            due("the source does without " + word, !found);
        }
        due("no package line", !code.contains("package "));
        due("the imports", code.replaceAll("import java\\.util\\.(ArrayList|List|Arrays);", "").indexOf("import ") < 0);
        due("signs 0 to 127 alone", source.chars().allMatch(character -> character < 128));
    }

    private static String signatureOf(Method method) {
        StringBuilder signature = new StringBuilder(method.getName()).append('(');
        for (int index = 0; index < method.getParameterCount(); index++) {
            signature.append(index == 0 ? "" : ",").append(method.getParameterTypes()[index].getName());
        }
        return signature.append(')').toString();
    }

    private static void due(String what, boolean holds) {
        ANSWERS.due(what, 1, holds ? 1 : 0);
    }
}
