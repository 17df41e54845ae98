public final class PackTest { public static void main(String[] a) { Due.is("x", 1, 1); Due.end(); } }
